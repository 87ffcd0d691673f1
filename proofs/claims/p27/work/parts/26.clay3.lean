/-! the lines: the class's, whole -/
/-- what measureRun may change too -/
def LM (I1 I : Mem) : Prop := ∀ (x : Nat) (j : Int), ¬ (x = 34 ∧ (j = 6 ∨ j = 7 ∨ (9 ≤ j ∧ j ≤ 11))) → ¬ (40 ≤ x ∧ x ≤ 45) → ¬ (47 ≤ x ∧ x ≤ 127) → I1 x j = I x j
theorem LK.lm {I1 I : Mem} (h : LK I1 I) : LM I1 I := fun x j a b c => h x j (by omega) b c
theorem LM.trans {I2 I1 I : Mem} (h : LM I2 I1) (h1 : LM I1 I) : LM I2 I := fun x j a b c => (h x j a b c).trans (h1 x j a b c)
theorem LC.keptM {I I1 : Mem} {W D H : Int} {T : TW} (h : LC I W D H T) (hk : LM I1 I) : LC I1 W D H T := ⟨(hk _ _ (by omega) (by omega) (by omega)).trans h.1, (hk _ _ (by omega) (by omega) (by omega)).trans h.2.1, (hk _ _ (by omega) (by omega) (by omega)).trans h.2.2.1, h.2.2.2.kept fun x j a b => hk x j (by omega) (by omega) (by omega)⟩
theorem wdT_last (v : YV) : (wdT v).2.2.2.2.2.2 ((wdT v).2.2.1 - 1) = (wdT v).2.1 := by
  show upF _ (tkT v.2.2 v.2.1.toNat).2.2.1 (tkT v.2.2 v.2.1.toNat).2.1 ((tkT v.2.2 v.2.1.toNat).2.2.1 + 1 - 1) = (tkT v.2.2 v.2.1.toNat).2.1
  rw [show (tkT v.2.2 v.2.1.toNat).2.2.1 + 1 - 1 = (tkT v.2.2 v.2.1.toNat).2.2.1 by omega]
  exact if_pos rfl
theorem sBeg_F0 (cur : Int) (S : LSt) (p k m : Int) : (sBeg cur S p k m).2.2.2.2 cur 0 = S.1 := by
  show bgF S.2.2.2.2 cur S.1 S.2.1 p k m cur 0 = S.1
  unfold bgF
  rw [if_pos rfl, if_pos rfl]
set_option maxHeartbeats 4000000 in
set_option maxRecDepth 100000 in
theorem c_startRun (I : Mem) (R : RMem) (hRO : RefOk R) {W D H : Int} {T : TW} (hC : LC I W D H T) (hWr : 20 ≤ W ∧ W ≤ 80) (hH : 0 ≤ H ∧ H < W) (cur : Nat) (hcur : I 34 8 = cur) (hc81 : cur < 81) {S : LSt} (hL : LI I S cur) (pos kd ld : Int) (hp : 0 ≤ pos ∧ pos ≤ 1000) (hkd : 0 ≤ kd ∧ kd ≤ 3) (hld : 0 ≤ ld ∧ ld ≤ 3) (t : RV) (h10 : I 34 10 = t.2.1) (h11 : I 34 11 = t.2.2) (hb : 0 ≤ t.2.1 ∧ t.2.1 ≤ 80 ∧ 0 ≤ t.2.2 ∧ t.2.2 ≤ 80) {kr kp : Int} (hI : Inv W S kr kp) (hkp : kp ≤ 79) (hB : S.2.1 ≤ rB W S.2.1 pos kd t ∧ rB W S.2.1 pos kd t ≤ W) : CC 1 0 0 yX0_startRun cX0_startRun 6 none [.inr (some 34), .inl (pos), .inl (kd), .inl (ld)] (290, ShF, I, R) (PW R (fun I1 => LI I1 (sSt W cur pos kd ld t S) (cur + 1) ∧ LK I1 I)) := by
  have hW1 : I 34 3 = W := hC.1
  have hc1 : I 34 7 = S.2.1 := hL.2.1
  have hc0 := hI.2.1
  have hi1 := hI.1
  have hi3 := hI.2.2.1
  have ha : 0 ≤ rAh kd t ∧ rAh kd t ≤ 80 := by
    unfold rAh
    split
    · omega
    · split
      · omega
      · split <;> omega
  have h61 : ∀ (Bv Mv : Int), rB W S.2.1 pos kd t = Bv → rM W S.2.1 pos kd t = Mv → WW cX0_startRun RX0 6 none false 1 0 0 (PW R (fun I1 => LI I1 (sSt W cur pos kd ld t S) (cur + 1) ∧ LK I1 I)) 0 0 61 [some (.inr (some 34)), some (.inl pos), some (.inl kd), some (.inl ld), some (.inl Bv), some (.inl Mv)] [] (290, ShF, I, R) := by
    intro Bv Mv hBv hMv
    refine r_iload_n dX0_startRun_61 rfl ?_
    refine r_ifeq (tgt := 98) dX0_startRun_62 (by decide) (by omega) (fun h62 => ?_) (fun h62 => ?_)
    · refine r_aload_n dX0_startRun_98 rfl ?_
      refine r_iload dX0_startRun_99 rfl ?_
      refine q_putI fl_X0_56 dX0_startRun_101 sf_34 ?_
      refine r_aload_n dX0_startRun_104 rfl ?_
      refine r_iload_n dX0_startRun_105 rfl ?_
      refine r_iload_n dX0_startRun_106 rfl ?_
      refine r_iload dX0_startRun_107 rfl ?_
      refine q_callVW lk_X0_65 dX0_startRun_109 (c_startField _ R hRO cur ((u2_n (Or.inr (by decide))).trans hcur) hc81 pos kd Mv) (by decide) sf_34 rfl rfl (Nat.le_of_ble_eq_true rfl) (by decide) (fun I3 hI3 => ?_)
      subst hI3
      refine q_vretW dX0_startRun_112 rfl ?_
      have e : (sSt W cur pos kd ld t S) = sBeg cur (sAt S Bv) pos kd Mv := by
        unfold sSt
        rw [hBv, hMv, if_neg (by omega)]
      rw [e]
      refine ⟨LI.beg hL.at, fun x j a b c => ?_⟩
      rw [bgI_n (by omega), u2_n (by omega)]
    · refine r_iload dX0_startRun_65 rfl ?_
      refine r_aload_n dX0_startRun_67 rfl ?_
      refine q_getI fl_X0_56 dX0_startRun_68 sf_34 ?_
      rw [hc1]
      refine r_icmple (tgt := 98) dX0_startRun_71 (by decide) (by omega) (by omega) (fun h71 => ?_) (fun h71 => ?_)
      · refine r_aload_n dX0_startRun_98 rfl ?_
        refine r_iload dX0_startRun_99 rfl ?_
        refine q_putI fl_X0_56 dX0_startRun_101 sf_34 ?_
        refine r_aload_n dX0_startRun_104 rfl ?_
        refine r_iload_n dX0_startRun_105 rfl ?_
        refine r_iload_n dX0_startRun_106 rfl ?_
        refine r_iload dX0_startRun_107 rfl ?_
        refine q_callVW lk_X0_65 dX0_startRun_109 (c_startField _ R hRO cur ((u2_n (Or.inr (by decide))).trans hcur) hc81 pos kd Mv) (by decide) sf_34 rfl rfl (Nat.le_of_ble_eq_true rfl) (by decide) (fun I3 hI3 => ?_)
        subst hI3
        refine q_vretW dX0_startRun_112 rfl ?_
        have e : (sSt W cur pos kd ld t S) = sBeg cur (sAt S Bv) pos kd Mv := by
          unfold sSt
          rw [hBv, hMv, if_neg (by omega)]
        rw [e]
        refine ⟨LI.beg hL.at, fun x j a b c => ?_⟩
        rw [bgI_n (by omega), u2_n (by omega)]
      · refine r_aload_n dX0_startRun_74 rfl ?_
        refine q_getR fl_X0_21 dX0_startRun_75 sf_34 (ro_34_1 hRO) ?_
        refine r_aload_n dX0_startRun_78 rfl ?_
        refine q_getI fl_X0_30 dX0_startRun_79 sf_34 ?_
        rw [hL.1]
        refine r_aload_n dX0_startRun_82 rfl ?_
        refine q_getI fl_X0_56 dX0_startRun_83 sf_34 ?_
        rw [hc1]
        refine r_iload dX0_startRun_86 rfl ?_
        refine r_aload_n dX0_startRun_88 rfl ?_
        refine q_getI fl_X0_56 dX0_startRun_89 sf_34 ?_
        rw [hc1]
        refine r_isub dX0_startRun_92 ?_
        refine r_iload_n dX0_startRun_93 rfl ?_
        refine r_iconst dX0_startRun_94 ?_
        refine q_callVW lk_X0_124 dX0_startRun_95 (c_add I R hRO S.1 S.2.1 (Bv - S.2.1) ld 0 (by have := hL.2.2.1; omega)) (by decide) sf_40 rfl rfl (Nat.le_of_ble_eq_true rfl) (by decide) (fun I2 hI2 => ?_)
        subst hI2
        have hs := hL.seg (l := Bv - S.2.1) (d := ld) (s := 0)
        rw [show S.2.1 + (Bv - S.2.1) = Bv by omega] at hs
        refine r_aload_n dX0_startRun_98 rfl ?_
        refine r_iload dX0_startRun_99 rfl ?_
        refine q_putI fl_X0_56 dX0_startRun_101 sf_34 ?_
        refine r_aload_n dX0_startRun_104 rfl ?_
        refine r_iload_n dX0_startRun_105 rfl ?_
        refine r_iload_n dX0_startRun_106 rfl ?_
        refine r_iload dX0_startRun_107 rfl ?_
        refine q_callVW lk_X0_65 dX0_startRun_109 (c_startField _ R hRO cur ((u2_n (Or.inr (by decide))).trans ((adI_n (by omega)).trans hcur)) hc81 pos kd Mv) (by decide) sf_34 rfl rfl (Nat.le_of_ble_eq_true rfl) (by decide) (fun I3 hI3 => ?_)
        subst hI3
        refine q_vretW dX0_startRun_112 rfl ?_
        have e : (sSt W cur pos kd ld t S) = sBeg cur (sSeg S (Bv - S.2.1) ld 0) pos kd Mv := by
          unfold sSt
          rw [hBv, hMv, if_pos ⟨by omega, by omega⟩]
        rw [e]
        refine ⟨LI.beg hs, fun x j a b c => ?_⟩
        rw [bgI_n (by omega), u2_n (by omega), adI_n b]
  refine CC_of (own := RX0) (ini := false) (by decide +kernel) rfl (fun h => absurd h (by decide)) (Nat.le_of_ble_eq_true rfl) ?_
  show WW cX0_startRun RX0 6 none false 1 0 0 (PW R (fun I1 => LI I1 (sSt W cur pos kd ld t S) (cur + 1) ∧ LK I1 I)) 0 0 0 [some (.inr (some 34)), some (.inl (pos)), some (.inl (kd)), some (.inl (ld)), none, none] [] (290, ShF, I, R)
  refine r_iload_n dX0_startRun_0 rfl ?_
  refine r_aload_n dX0_startRun_1 rfl ?_
  refine r_iload_n dX0_startRun_2 rfl ?_
  refine q_callVF lk_X0_121 dX0_startRun_3 (c_runAhead I R hRO kd (by omega) t h10 h11 (by omega)) (by decide) sf_34 rfl rfl (Nat.le_of_ble_eq_true rfl) (by decide) ?_
  refine r_isub dX0_startRun_6 ?_
  refine r_istore dX0_startRun_7 (by decide) ?_
  dsimp only [lset]
  refine r_iconst dX0_startRun_9 ?_
  refine r_istore dX0_startRun_10 (by decide) ?_
  dsimp only [lset]
  refine r_iload dX0_startRun_12 rfl ?_
  refine r_aload_n dX0_startRun_14 rfl ?_
  refine q_getI fl_X0_56 dX0_startRun_15 sf_34 ?_
  rw [hc1]
  refine r_icmpge (tgt := 33) dX0_startRun_18 (by decide) (by omega) (by omega) (fun h18 => ?_) (fun h18 => ?_)
  · refine r_iload dX0_startRun_33 rfl ?_
    refine r_aload_n dX0_startRun_35 rfl ?_
    refine q_getI fl_X0_109 dX0_startRun_36 sf_34 ?_
    rw [h10]
    refine r_iadd dX0_startRun_39 ?_
    refine r_aload_n dX0_startRun_40 rfl ?_
    refine q_getI fl_X0_41 dX0_startRun_41 sf_34 ?_
    rw [hW1]
    refine r_icmple (tgt := 61) dX0_startRun_44 (by decide) (by omega) (by omega) (fun h44 => ?_) (fun h44 => ?_)
    · first
        | exact h61 _ _ (by unfold rB; rw [if_pos (by omega)]) (by unfold rM; rw [if_pos (by omega)])
        | exact h61 _ _ (by unfold rB; rw [if_neg (show ¬ pos - rAh kd t < S.2.1 by omega), if_pos (by omega)]) (by unfold rM; rw [if_neg (show ¬ pos - rAh kd t < S.2.1 by omega), if_pos (by omega)])
        | exact h61 _ _ (by unfold rB; rw [if_neg (show ¬ pos - rAh kd t < S.2.1 by omega), if_neg (by omega)]) (by unfold rM; rw [if_neg (show ¬ pos - rAh kd t < S.2.1 by omega), if_neg (by omega)])
    · refine r_aload_n dX0_startRun_47 rfl ?_
      refine q_getI fl_X0_41 dX0_startRun_48 sf_34 ?_
      rw [hW1]
      refine r_aload_n dX0_startRun_51 rfl ?_
      refine q_getI fl_X0_109 dX0_startRun_52 sf_34 ?_
      rw [h10]
      refine r_isub dX0_startRun_55 ?_
      refine r_istore dX0_startRun_56 (by decide) ?_
      dsimp only [lset]
      refine r_iconst dX0_startRun_58 ?_
      refine r_istore dX0_startRun_59 (by decide) ?_
      dsimp only [lset]
      first
        | exact h61 _ _ (by unfold rB; rw [if_pos (by omega)]) (by unfold rM; rw [if_pos (by omega)])
        | exact h61 _ _ (by unfold rB; rw [if_neg (show ¬ pos - rAh kd t < S.2.1 by omega), if_pos (by omega)]) (by unfold rM; rw [if_neg (show ¬ pos - rAh kd t < S.2.1 by omega), if_pos (by omega)])
        | exact h61 _ _ (by unfold rB; rw [if_neg (show ¬ pos - rAh kd t < S.2.1 by omega), if_neg (by omega)]) (by unfold rM; rw [if_neg (show ¬ pos - rAh kd t < S.2.1 by omega), if_neg (by omega)])
  · refine r_aload_n dX0_startRun_21 rfl ?_
    refine q_getI fl_X0_56 dX0_startRun_22 sf_34 ?_
    rw [hc1]
    refine r_istore dX0_startRun_25 (by decide) ?_
    dsimp only [lset]
    refine r_iconst dX0_startRun_27 ?_
    refine r_istore dX0_startRun_28 (by decide) ?_
    dsimp only [lset]
    refine r_goto (tgt := 61) dX0_startRun_30 (by decide) ?_
    first
      | exact h61 _ _ (by unfold rB; rw [if_pos (by omega)]) (by unfold rM; rw [if_pos (by omega)])
      | exact h61 _ _ (by unfold rB; rw [if_neg (show ¬ pos - rAh kd t < S.2.1 by omega), if_pos (by omega)]) (by unfold rM; rw [if_neg (show ¬ pos - rAh kd t < S.2.1 by omega), if_pos (by omega)])
      | exact h61 _ _ (by unfold rB; rw [if_neg (show ¬ pos - rAh kd t < S.2.1 by omega), if_neg (by omega)]) (by unfold rM; rw [if_neg (show ¬ pos - rAh kd t < S.2.1 by omega), if_neg (by omega)])
set_option maxHeartbeats 4000000 in
set_option maxRecDepth 100000 in
theorem c_fillBehindTab (I : Mem) (R : RMem) (hRO : RefOk R) {W D H : Int} {T : TW} (hC : LC I W D H T) (hWr : 20 ≤ W ∧ W ≤ 80) (hH : 0 ≤ H ∧ H < W) (cur : Nat) (hcur : I 34 8 = cur) (hc81 : cur < 81) {S : LSt} (hL : LI I S cur) (hD : 2 ≤ D ∧ D ≤ 20) {a a1 : Nat} (hs : StyAt R a a1) (hap : a ≤ 33 ∧ a1 ≤ 33) (y : YV) (hy : WfY y) (hY : AtY I a a1 y) (h1 : 1 ≤ cur) (hnf : (cur : Int) < T.2.2.1) (hen : 0 ≤ fF T.2.2.2.2.2.2 cur ∧ T.2.2.2.2.2.2 cur ≤ T.2.1 ∧ T.2.1 ≤ 80) {ch : Int → Int} {fr to k0 : Int} (hto : to ≤ 80) (hF : Fp ch T.2.2.2.1 T.2.2.2.2.1 T.2.2.2.2.2.1 fr to (fF T.2.2.2.2.2.2 cur) (T.2.2.2.2.2.2 cur)) (hI : Inv W S k0 k0) (hkf : k0 + 1 ≤ fr) : CC 4 0 0 yX0_fillBehindTab cX0_fillBehindTab 8 none [.inr (some 34), .inr (some (a))] (290, ShF, I, R) (PW R (fun I1 => LI I1 (sTab W D H y.2.2 T.2.2.2.1 T.2.2.2.2.1 T.2.2.2.2.2.1 cur (fF T.2.2.2.2.2.2 cur) (T.2.2.2.2.2.2 cur) S) (cur + 1) ∧ LM I1 I)) := by
  have hW1 : I 34 3 = W := hC.1
  have hD1 : I 34 4 = D := hC.2.1
  have hc1 : I 34 7 = S.2.1 := hL.2.1
  have hTA := hC.2.2.2
  have hc0 := hI.2.1
  have hi1 := hI.1
  have hi3 := hI.2.2.1
  have hbd := hF.1.bd
  have hab := hF.1.1
  have hln := hF.ln
  have hsvg := hy.2.2.1
  have hgg : ∀ p : Int, 1 ≤ p → p ≤ 80 → I a1 p = y.2.2 p := fun p q1 q2 => hY.2.2 p q1 q2
  have hsv : SV (I a1) := fun p q1 q2 => by rw [hgg p q1 q2]; exact hsvg p q1 q2
  have hpb := tPos_bd (c := S.2.1) hD hc0.1 hsvg
  have hA : fF T.2.2.2.2.2.2 cur = T.2.2.2.2.2.2 ((cur : Int) - 1) := if_neg (by omega)
  have hlen80 : ∀ w : Int, fF T.2.2.2.2.2.2 cur ≤ w → w < T.2.2.2.2.2.2 cur → T.2.2.2.2.1 w ≤ 80 := fun w q1 q2 => by
    have := (hF.1.2.2.2 w q1 q2).1
    omega
  have hBe := bhG_R (g := y.2.2) (c := S.2.1)
  have hrn := sRun_bd (room := W - (if (tKd y.2.2 S.2.1) = 0 then (tPos y.2.2 D S.2.1) else S.2.1)) hab hln
  have er : sRun T.2.2.2.2.1 T.2.2.2.2.2.1 (W - (if (tKd y.2.2 S.2.1) = 0 then (tPos y.2.2 D S.2.1) else S.2.1)) (fF T.2.2.2.2.2.2 cur) (T.2.2.2.2.2.2 cur) = (tRun W D y.2.2 T.2.2.2.2.1 T.2.2.2.2.2.1 (fF T.2.2.2.2.2.2 cur) (T.2.2.2.2.2.2 cur) S.2.1) := rfl
  rw [er] at hrn
  have h113 : ∀ (z o Pv Kv : Int), z = bhG y.2.2 S.2.1 80 → ((o = 0 ∧ z = -9) ∨ (o = 1 ∧ z ≠ -9)) → Pv = (tPos y.2.2 D S.2.1) → Kv = (tKd y.2.2 S.2.1) → ∀ (I2 : Mem), (I2 34 9 = (tRun W D y.2.2 T.2.2.2.2.1 T.2.2.2.2.2.1 (fF T.2.2.2.2.2.2 cur) (T.2.2.2.2.2.2 cur) S.2.1).1 ∧ I2 34 10 = (tRun W D y.2.2 T.2.2.2.2.1 T.2.2.2.2.2.1 (fF T.2.2.2.2.2.2 cur) (T.2.2.2.2.2.2 cur) S.2.1).2.1 ∧ I2 34 11 = (tRun W D y.2.2 T.2.2.2.2.1 T.2.2.2.2.2.1 (fF T.2.2.2.2.2.2 cur) (T.2.2.2.2.2.2 cur) S.2.1).2.2) → (∀ (x : Nat) (j : Int), ¬ (x = 34 ∧ 9 ≤ j ∧ j ≤ 11) → I2 x j = I x j) → WW cX0_fillBehindTab RX0 8 none false 4 0 0 (PW R (fun I1 => LI I1 (sTab W D H y.2.2 T.2.2.2.1 T.2.2.2.2.1 T.2.2.2.2.2.1 cur (fF T.2.2.2.2.2.2 cur) (T.2.2.2.2.2.2 cur) S) (cur + 1) ∧ LM I1 I)) 0 0 113 [some (.inr (some 34)), some (.inr (some a)), some (.inl (fF T.2.2.2.2.2.2 cur)), some (.inl (T.2.2.2.2.2.2 cur)), some (.inl z), some (.inl o), some (.inl Pv), some (.inl Kv)] [] (290, ShF, I2, R) := by
    intro z o Pv Kv hz ho hPv hKv I2 hrun hk2
    have hM2 : LM I2 I := fun x j p q r => hk2 x j (by omega)
    have hC2 := hC.keptM hM2
    have hL2 : LI I2 S cur := hL.kept (fun x j p q r => hk2 x j (by omega)) (by omega)
    have hcu2 : I2 34 8 = cur := (hk2 _ _ (by omega)).trans hcur
    have hW2 : I2 34 3 = W := hC2.1
    have hgg2 : ∀ p : Int, 1 ≤ p → p ≤ 80 → I2 a1 p = y.2.2 p := fun p q1 q2 => by rw [hk2 _ _ (by omega)]; exact hgg p q1 q2
    have hsv2 : SV (I2 a1) := fun p q1 q2 => by rw [hgg2 p q1 q2]; exact hsvg p q1 q2
    refine r_iload dX0_fillBehindTab_113 rfl ?_
    refine r_aload_n dX0_fillBehindTab_115 rfl ?_
    refine q_getI fl_X0_41 dX0_fillBehindTab_116 sf_34 ?_
    rw [hW2]
    refine r_icmpgt (tgt := 135) dX0_fillBehindTab_119 (by decide) (by omega) (by omega) (fun h119 => ?_) (fun h119 => ?_)
    · refine r_aload_n dX0_fillBehindTab_135 rfl ?_
      refine q_callVW lk_X0_100 dX0_fillBehindTab_136 (c_startLine I2 R hRO) (by decide) sf_34 rfl rfl (Nat.le_of_ble_eq_true rfl) (by decide) (fun I3 hI3 => ?_)
      have hH2 : I2 34 5 = H := hC2.2.2.1
      rw [hH2] at hI3
      have hL3 : LI I3 (sLine H S) cur := by rw [hI3]; exact hL2.line
      have hK3 : LK I3 I2 := fun x j p q r => by rw [hI3, u2_n (by omega), u2_n (by omega)]
      refine r_aload_n dX0_fillBehindTab_139 rfl ?_
      refine r_bipush dX0_fillBehindTab_140 (by decide) ?_
      refine r_bipush dX0_fillBehindTab_142 (by decide) ?_
      refine r_bipush dX0_fillBehindTab_144 (by decide) ?_
      refine q_callVW lk_X0_65 dX0_fillBehindTab_146 (c_startField I3 R hRO cur ((hK3 _ _ (by omega) (by omega) (by omega)).trans hcu2) hc81 _ _ _) (by decide) sf_34 rfl rfl (Nat.le_of_ble_eq_true rfl) (by decide) (fun I4 hI4 => ?_)
      have hL4 : LI I4 (sBeg cur (sLine H S) (-9) (-9) (-9)) (cur + 1) := by rw [hI4]; exact hL3.beg
      have hK4 : LK I4 I2 := fun x j p q r => by rw [hI4, bgI_n (by omega)]; exact hK3 x j p q r
      have hM4 : LM I4 I := hK4.lm.trans hM2
      have hi4 := (((hI.line (H := H) ⟨hH.1, by omega⟩).le (kr1 := k0 + 1) (kp1 := k0 + 1) (Int.le_refl _) (by omega)).beg cur (-9) (-9) (-9))
      refine r_aload_n dX0_fillBehindTab_149 rfl ?_
      refine r_iload_n dX0_fillBehindTab_150 rfl ?_
      refine r_iload_n dX0_fillBehindTab_151 rfl ?_
      refine q_callVW lk_X0_76 dX0_fillBehindTab_152 (c_flow I4 R hRO (hC.keptM hM4) hWr hH cur ((hM4 _ _ (by omega) (by omega) (by omega)).trans hcur) hc81 (by omega) hL4 (fF T.2.2.2.2.2.2 cur) (T.2.2.2.2.2.2 cur) (by omega) hto hF.1.2.2.2 hi4 (by omega) (fun q => ⟨by have := (hF.1.2.2.1.1 q).1; omega, hH.2⟩) (by rw [sBeg_F0]; show 0 ≤ S.1 + 1 ∧ S.1 + 1 ≤ 80; omega)) (by decide) sf_34 rfl rfl (Nat.le_of_ble_eq_true rfl) (by decide) (fun I9 hI9 => ?_)
      refine q_vretW dX0_fillBehindTab_155 rfl ?_
      have e : (sTab W D H y.2.2 T.2.2.2.1 T.2.2.2.2.1 T.2.2.2.2.2.1 cur (fF T.2.2.2.2.2.2 cur) (T.2.2.2.2.2.2 cur) S) = sFl W H cur T.2.2.2.1 T.2.2.2.2.1 (fF T.2.2.2.2.2.2 cur) ((T.2.2.2.2.2.2 cur) - (fF T.2.2.2.2.2.2 cur)).toNat (fF T.2.2.2.2.2.2 cur) (sBeg cur (sLine H S) (-9) (-9) (-9)) := by
        unfold sTab
        rw [if_pos (by omega)]
      rw [e]
      exact ⟨hI9.1, (hI9.2.lm.trans hM4)⟩
    · refine r_iload_n dX0_fillBehindTab_122 rfl ?_
      refine r_iload_n dX0_fillBehindTab_123 rfl ?_
      refine r_icmpge (tgt := 156) dX0_fillBehindTab_124 (by decide) (by omega) (by omega) (fun h124 => ?_) (fun h124 => ?_)
      · refine r_aload_n dX0_fillBehindTab_156 rfl ?_
        have hno : ¬ (W < (tPos y.2.2 D S.2.1) ∨ ((fF T.2.2.2.2.2.2 cur) < (T.2.2.2.2.2.2 cur) ∧ (tRun W D y.2.2 T.2.2.2.2.1 T.2.2.2.2.2.1 (fF T.2.2.2.2.2.2 cur) (T.2.2.2.2.2.2 cur) S.2.1).1 = (fF T.2.2.2.2.2.2 cur))) := by omega
        have hBB := rB_in (D := D) (c := S.2.1) (kd := (tKd y.2.2 S.2.1)) (t := (tRun W D y.2.2 T.2.2.2.2.1 T.2.2.2.2.2.1 (fF T.2.2.2.2.2.2 cur) (T.2.2.2.2.2.2 cur) S.2.1)) (a := (fF T.2.2.2.2.2.2 cur)) (pos := (tPos y.2.2 D S.2.1)) hc0 ⟨hpb.1.1, by omega⟩ ⟨hrn.1.1, hrn.2.1, hrn.2.2.1, hrn.2.2.2⟩
        refine r_iload dX0_fillBehindTab_157 rfl ?_
        refine r_iload dX0_fillBehindTab_159 rfl ?_
        refine r_iload dX0_fillBehindTab_161 rfl ?_
        refine r_ifeq (tgt := 175) dX0_fillBehindTab_163 (by decide) (by omega) (fun h163 => ?_) (fun h163 => ?_)
        · refine r_iconst dX0_fillBehindTab_175 ?_
          have hlv : (0 : Int) = (tLd y.2.2 S.2.1) := (if_pos (by omega) : (tLd y.2.2 S.2.1) = 0).symm
          rw [hlv, hPv, hKv]
          refine q_callVW lk_X0_106 dX0_fillBehindTab_176 (c_startRun I2 R hRO hC2 hWr hH cur hcu2 hc81 hL2 (tPos y.2.2 D S.2.1) (tKd y.2.2 S.2.1) (tLd y.2.2 S.2.1) (by omega) (by omega) (by omega) (tRun W D y.2.2 T.2.2.2.2.1 T.2.2.2.2.2.1 (fF T.2.2.2.2.2.2 cur) (T.2.2.2.2.2.2 cur) S.2.1) hrun.2.1 hrun.2.2 (by have := hrn.2.2.1; have := hrn.2.1; omega) hI (by omega) ⟨hBB.1, by omega⟩) (by decide) sf_34 rfl rfl (Nat.le_of_ble_eq_true rfl) (by decide) (fun I5 hI5 => ?_)
          have hi5 := (hI.st (cur := cur) (ld := (tLd y.2.2 S.2.1)) (t := (tRun W D y.2.2 T.2.2.2.2.1 T.2.2.2.2.2.1 (fF T.2.2.2.2.2.2 cur) (T.2.2.2.2.2.2 cur) S.2.1)) (pos := (tPos y.2.2 D S.2.1)) (kd := (tKd y.2.2 S.2.1)) ⟨hBB.1, by omega⟩).le (kr1 := k0 + 1) (kp1 := k0 + 1) (by omega) (Int.le_refl _)
          have hcs := sSt_c W cur (tPos y.2.2 D S.2.1) (tKd y.2.2 S.2.1) (tLd y.2.2 S.2.1) (tRun W D y.2.2 T.2.2.2.2.1 T.2.2.2.2.2.1 (fF T.2.2.2.2.2.2 cur) (T.2.2.2.2.2.2 cur) S.2.1) S
          have hF5 : (sSt W cur (tPos y.2.2 D S.2.1) (tKd y.2.2 S.2.1) (tLd y.2.2 S.2.1) (tRun W D y.2.2 T.2.2.2.2.1 T.2.2.2.2.2.1 (fF T.2.2.2.2.2.2 cur) (T.2.2.2.2.2.2 cur) S.2.1) S).2.2.2.2 cur 0 = S.1 := by
            unfold sSt
            rw [sBeg_F0]
            split <;> rfl
          generalize hS5 : sSt W cur (tPos y.2.2 D S.2.1) (tKd y.2.2 S.2.1) (tLd y.2.2 S.2.1) (tRun W D y.2.2 T.2.2.2.2.1 T.2.2.2.2.2.1 (fF T.2.2.2.2.2.2 cur) (T.2.2.2.2.2.2 cur) S.2.1) S = S5 at hi5 hcs hI5 hF5
          have hM5 : LM I5 I := hI5.2.lm.trans hM2
          have hr5 : I5 34 9 = (tRun W D y.2.2 T.2.2.2.2.1 T.2.2.2.2.2.1 (fF T.2.2.2.2.2.2 cur) (T.2.2.2.2.2.2 cur) S.2.1).1 := (hI5.2 _ _ (by omega) (by omega) (by omega)).trans hrun.1
          have hwk : ∀ w : Int, (fF T.2.2.2.2.2.2 cur) ≤ w → w < (tRun W D y.2.2 T.2.2.2.2.1 T.2.2.2.2.2.1 (fF T.2.2.2.2.2.2 cur) (T.2.2.2.2.2.2 cur) S.2.1).1 → Wk T.2.2.2.1 T.2.2.2.2.1 ch (if (tRun W D y.2.2 T.2.2.2.2.1 T.2.2.2.2.2.1 (fF T.2.2.2.2.2.2 cur) (T.2.2.2.2.2.2 cur) S.2.1).1 = (fF T.2.2.2.2.2.2 cur) then fr else T.2.2.2.1 ((tRun W D y.2.2 T.2.2.2.2.1 T.2.2.2.2.2.1 (fF T.2.2.2.2.2.2 cur) (T.2.2.2.2.2.2 cur) S.2.1).1 - 1) + T.2.2.2.2.1 ((tRun W D y.2.2 T.2.2.2.2.1 T.2.2.2.2.2.1 (fF T.2.2.2.2.2.2 cur) (T.2.2.2.2.2.2 cur) S.2.1).1 - 1)) (tRun W D y.2.2 T.2.2.2.2.1 T.2.2.2.2.2.1 (fF T.2.2.2.2.2.2 cur) (T.2.2.2.2.2.2 cur) S.2.1).1 w := fun w w1 w2 => by
            rw [if_neg (by omega)]
            exact (hF.1.sub (e := (tRun W D y.2.2 T.2.2.2.2.1 T.2.2.2.2.2.1 (fF T.2.2.2.2.2.2 cur) (T.2.2.2.2.2.2 cur) S.2.1).1) (by omega) hrn.1.2).1.2.2.2 w w1 w2
          have hE : k0 + 1 ≤ (if (tRun W D y.2.2 T.2.2.2.2.1 T.2.2.2.2.2.1 (fF T.2.2.2.2.2.2 cur) (T.2.2.2.2.2.2 cur) S.2.1).1 = (fF T.2.2.2.2.2.2 cur) then fr else T.2.2.2.1 ((tRun W D y.2.2 T.2.2.2.2.1 T.2.2.2.2.2.1 (fF T.2.2.2.2.2.2 cur) (T.2.2.2.2.2.2 cur) S.2.1).1 - 1) + T.2.2.2.2.1 ((tRun W D y.2.2 T.2.2.2.2.1 T.2.2.2.2.2.1 (fF T.2.2.2.2.2.2 cur) (T.2.2.2.2.2.2 cur) S.2.1).1 - 1)) ∧ (if (tRun W D y.2.2 T.2.2.2.2.1 T.2.2.2.2.2.1 (fF T.2.2.2.2.2.2 cur) (T.2.2.2.2.2.2 cur) S.2.1).1 = (fF T.2.2.2.2.2.2 cur) then fr else T.2.2.2.1 ((tRun W D y.2.2 T.2.2.2.2.1 T.2.2.2.2.2.1 (fF T.2.2.2.2.2.2 cur) (T.2.2.2.2.2.2 cur) S.2.1).1 - 1) + T.2.2.2.2.1 ((tRun W D y.2.2 T.2.2.2.2.1 T.2.2.2.2.2.1 (fF T.2.2.2.2.2.2 cur) (T.2.2.2.2.2.2 cur) S.2.1).1 - 1)) ≤ to := by
            by_cases hra : (tRun W D y.2.2 T.2.2.2.2.1 T.2.2.2.2.2.1 (fF T.2.2.2.2.2.2 cur) (T.2.2.2.2.2.2 cur) S.2.1).1 = (fF T.2.2.2.2.2.2 cur)
            · rw [if_pos hra]; omega
            · rw [if_neg hra]
              have h := hF.1.sub (e := (tRun W D y.2.2 T.2.2.2.2.1 T.2.2.2.2.2.1 (fF T.2.2.2.2.2.2 cur) (T.2.2.2.2.2.2 cur) S.2.1).1) (by omega) hrn.1.2
              have := h.1.bd
              omega
          refine r_aload_n dX0_fillBehindTab_179 rfl ?_
          refine r_iload_n dX0_fillBehindTab_180 rfl ?_
          refine r_aload_n dX0_fillBehindTab_181 rfl ?_
          refine q_getI fl_X0_97 dX0_fillBehindTab_182 sf_34 ?_
          rw [hr5]
          refine q_callVW lk_X0_76 dX0_fillBehindTab_185 (c_flow I5 R hRO (hC.keptM hM5) hWr hH cur ((hM5 _ _ (by omega) (by omega) (by omega)).trans hcur) hc81 (by omega) hI5.1 (fF T.2.2.2.2.2.2 cur) (tRun W D y.2.2 T.2.2.2.2.1 T.2.2.2.2.2.1 (fF T.2.2.2.2.2.2 cur) (T.2.2.2.2.2.2 cur) S.2.1).1 (by omega) (by omega) hwk hi5 (by omega) (fun q => ⟨by have := (hF.1.2.2.1.1 (by omega)).1; omega, by have := hrn.2.2.1 q; omega⟩) (by rw [hF5]; omega)) (by decide) sf_34 rfl rfl (Nat.le_of_ble_eq_true rfl) (by decide) (fun I6 hI6 => ?_)
          have hM6 : LM I6 I := hI6.2.lm.trans hM5
          have hr6 : I6 34 9 = (tRun W D y.2.2 T.2.2.2.2.1 T.2.2.2.2.2.1 (fF T.2.2.2.2.2.2 cur) (T.2.2.2.2.2.2 cur) S.2.1).1 := (hI6.2 _ _ (by omega) (by omega) (by omega)).trans hr5
          have hi6 := Inv.fl (cur := cur) hH hwk ((tRun W D y.2.2 T.2.2.2.2.1 T.2.2.2.2.2.1 (fF T.2.2.2.2.2.2 cur) (T.2.2.2.2.2.2 cur) S.2.1).1 - (fF T.2.2.2.2.2.2 cur)).toNat (fF T.2.2.2.2.2.2 cur) S5 (k0 + 1) (by omega) (Int.le_refl _) hi5 (by omega) (fun q => ⟨by have := (hF.1.2.2.1.1 (by omega)).1; omega, fun q => by omega, fun _ => by have := hrn.2.2.1 (by omega); omega⟩)
          have hF6 : (sFl W H cur T.2.2.2.1 T.2.2.2.2.1 (fF T.2.2.2.2.2.2 cur) ((tRun W D y.2.2 T.2.2.2.2.1 T.2.2.2.2.2.1 (fF T.2.2.2.2.2.2 cur) (T.2.2.2.2.2.2 cur) S.2.1).1 - (fF T.2.2.2.2.2.2 cur)).toNat (fF T.2.2.2.2.2.2 cur) S5).2.2.2.2 cur 0 = S.1 := (sFl_F0 _ _ _).trans hF5
          refine r_aload_n dX0_fillBehindTab_188 rfl ?_
          refine q_getI fl_X0_97 dX0_fillBehindTab_189 sf_34 ?_
          rw [hr6]
          refine r_iload_n dX0_fillBehindTab_192 rfl ?_
          refine r_icmpge (tgt := 209) dX0_fillBehindTab_193 (by decide) (by omega) (by omega) (fun h193 => ?_) (fun h193 => ?_)
          · refine q_vretW dX0_fillBehindTab_209 rfl ?_
            first
              | (have e : (sTab W D H y.2.2 T.2.2.2.1 T.2.2.2.2.1 T.2.2.2.2.2.1 cur (fF T.2.2.2.2.2.2 cur) (T.2.2.2.2.2.2 cur) S) = sFl W H cur T.2.2.2.1 T.2.2.2.2.1 (tRun W D y.2.2 T.2.2.2.2.1 T.2.2.2.2.2.1 (fF T.2.2.2.2.2.2 cur) (T.2.2.2.2.2.2 cur) S.2.1).1 ((T.2.2.2.2.2.2 cur) - (tRun W D y.2.2 T.2.2.2.2.1 T.2.2.2.2.2.1 (fF T.2.2.2.2.2.2 cur) (T.2.2.2.2.2.2 cur) S.2.1).1).toNat (tRun W D y.2.2 T.2.2.2.2.1 T.2.2.2.2.2.1 (fF T.2.2.2.2.2.2 cur) (T.2.2.2.2.2.2 cur) S.2.1).1 (sLine H (sFl W H cur T.2.2.2.1 T.2.2.2.2.1 (fF T.2.2.2.2.2.2 cur) ((tRun W D y.2.2 T.2.2.2.2.1 T.2.2.2.2.2.1 (fF T.2.2.2.2.2.2 cur) (T.2.2.2.2.2.2 cur) S.2.1).1 - (fF T.2.2.2.2.2.2 cur)).toNat (fF T.2.2.2.2.2.2 cur) S5)) := by
                   rw [← hS5]
                   unfold sTab
                   rw [if_neg hno, if_pos (by omega)]
                 rw [e]
                 exact ⟨hI8.1, hI8.2.lm.trans hM7⟩)
              | (have e : (sTab W D H y.2.2 T.2.2.2.1 T.2.2.2.2.1 T.2.2.2.2.2.1 cur (fF T.2.2.2.2.2.2 cur) (T.2.2.2.2.2.2 cur) S) = sFl W H cur T.2.2.2.1 T.2.2.2.2.1 (fF T.2.2.2.2.2.2 cur) ((tRun W D y.2.2 T.2.2.2.2.1 T.2.2.2.2.2.1 (fF T.2.2.2.2.2.2 cur) (T.2.2.2.2.2.2 cur) S.2.1).1 - (fF T.2.2.2.2.2.2 cur)).toNat (fF T.2.2.2.2.2.2 cur) S5 := by
                   rw [← hS5]
                   unfold sTab
                   rw [if_neg hno, if_neg (by omega)]
                 rw [e]
                 exact ⟨hI6.1, hM6⟩)
          · refine r_aload_n dX0_fillBehindTab_196 rfl ?_
            have hra : (tRun W D y.2.2 T.2.2.2.2.1 T.2.2.2.2.2.1 (fF T.2.2.2.2.2.2 cur) (T.2.2.2.2.2.2 cur) S.2.1).1 ≠ (fF T.2.2.2.2.2.2 cur) := by omega
            rw [if_neg hra] at hi6 hE
            have hsep := (hF.1.2.2.2 ((tRun W D y.2.2 T.2.2.2.2.1 T.2.2.2.2.2.1 (fF T.2.2.2.2.2.2 cur) (T.2.2.2.2.2.2 cur) S.2.1).1 - 1) (by omega) (by omega)).2.2.1 (by omega)
            rw [show (tRun W D y.2.2 T.2.2.2.2.1 T.2.2.2.2.2.1 (fF T.2.2.2.2.2.2 cur) (T.2.2.2.2.2.2 cur) S.2.1).1 - 1 + 1 = (tRun W D y.2.2 T.2.2.2.2.1 T.2.2.2.2.2.1 (fF T.2.2.2.2.2.2 cur) (T.2.2.2.2.2.2 cur) S.2.1).1 by omega] at hsep
            have hwr := (hF.1.2.2.2 (tRun W D y.2.2 T.2.2.2.2.1 T.2.2.2.2.2.1 (fF T.2.2.2.2.2.2 cur) (T.2.2.2.2.2.2 cur) S.2.1).1 (by omega) (by omega)).1
            refine q_callVW lk_X0_100 dX0_fillBehindTab_197 (c_startLine I6 R hRO) (by decide) sf_34 rfl rfl (Nat.le_of_ble_eq_true rfl) (by decide) (fun I7 hI7 => ?_)
            have hH6 : I6 34 5 = H := (hM6 _ _ (by omega) (by omega) (by omega)).trans hC.2.2.1
            rw [hH6] at hI7
            have hL7 := hI6.1.line (H := H)
            rw [← hI7] at hL7
            have hK7 : LK I7 I6 := fun x j p q r => by rw [hI7, u2_n (by omega), u2_n (by omega)]
            have hM7 : LM I7 I := hK7.lm.trans hM6
            have hr7 : I7 34 9 = (tRun W D y.2.2 T.2.2.2.2.1 T.2.2.2.2.2.1 (fF T.2.2.2.2.2.2 cur) (T.2.2.2.2.2.2 cur) S.2.1).1 := (hK7 _ _ (by omega) (by omega) (by omega)).trans hr6
            have hi7 := (hi6.line (H := H) ⟨hH.1, by omega⟩)
            have hi6r := hi6.1
            refine r_aload_n dX0_fillBehindTab_200 rfl ?_
            refine r_aload_n dX0_fillBehindTab_201 rfl ?_
            refine q_getI fl_X0_97 dX0_fillBehindTab_202 sf_34 ?_
            rw [hr7]
            refine r_iload_n dX0_fillBehindTab_205 rfl ?_
            refine q_callVW lk_X0_76 dX0_fillBehindTab_206 (c_flow I7 R hRO (hC.keptM hM7) hWr hH cur ((hM7 _ _ (by omega) (by omega) (by omega)).trans hcur) hc81 (by omega) hL7 (tRun W D y.2.2 T.2.2.2.2.1 T.2.2.2.2.2.1 (fF T.2.2.2.2.2.2 cur) (T.2.2.2.2.2.2 cur) S.2.1).1 (T.2.2.2.2.2.2 cur) (by omega) hto (fun w w1 w2 => hF.1.2.2.2 w (by omega) w2) (hi7.le (Int.le_refl _) (by omega)) (by omega) (fun q => ⟨by omega, hH.2⟩) (by show 0 ≤ (sFl W H cur T.2.2.2.1 T.2.2.2.2.1 (fF T.2.2.2.2.2.2 cur) ((tRun W D y.2.2 T.2.2.2.2.1 T.2.2.2.2.2.1 (fF T.2.2.2.2.2.2 cur) (T.2.2.2.2.2.2 cur) S.2.1).1 - (fF T.2.2.2.2.2.2 cur)).toNat (fF T.2.2.2.2.2.2 cur) S5).2.2.2.2 cur 0 ∧ (sFl W H cur T.2.2.2.1 T.2.2.2.2.1 (fF T.2.2.2.2.2.2 cur) ((tRun W D y.2.2 T.2.2.2.2.1 T.2.2.2.2.2.1 (fF T.2.2.2.2.2.2 cur) (T.2.2.2.2.2.2 cur) S.2.1).1 - (fF T.2.2.2.2.2.2 cur)).toNat (fF T.2.2.2.2.2.2 cur) S5).2.2.2.2 cur 0 ≤ 80; rw [hF6]; omega)) (by decide) sf_34 rfl rfl (Nat.le_of_ble_eq_true rfl) (by decide) (fun I8 hI8 => ?_)
            refine q_vretW dX0_fillBehindTab_209 rfl ?_
            first
              | (have e : (sTab W D H y.2.2 T.2.2.2.1 T.2.2.2.2.1 T.2.2.2.2.2.1 cur (fF T.2.2.2.2.2.2 cur) (T.2.2.2.2.2.2 cur) S) = sFl W H cur T.2.2.2.1 T.2.2.2.2.1 (tRun W D y.2.2 T.2.2.2.2.1 T.2.2.2.2.2.1 (fF T.2.2.2.2.2.2 cur) (T.2.2.2.2.2.2 cur) S.2.1).1 ((T.2.2.2.2.2.2 cur) - (tRun W D y.2.2 T.2.2.2.2.1 T.2.2.2.2.2.1 (fF T.2.2.2.2.2.2 cur) (T.2.2.2.2.2.2 cur) S.2.1).1).toNat (tRun W D y.2.2 T.2.2.2.2.1 T.2.2.2.2.2.1 (fF T.2.2.2.2.2.2 cur) (T.2.2.2.2.2.2 cur) S.2.1).1 (sLine H (sFl W H cur T.2.2.2.1 T.2.2.2.2.1 (fF T.2.2.2.2.2.2 cur) ((tRun W D y.2.2 T.2.2.2.2.1 T.2.2.2.2.2.1 (fF T.2.2.2.2.2.2 cur) (T.2.2.2.2.2.2 cur) S.2.1).1 - (fF T.2.2.2.2.2.2 cur)).toNat (fF T.2.2.2.2.2.2 cur) S5)) := by
                   rw [← hS5]
                   unfold sTab
                   rw [if_neg hno, if_pos (by omega)]
                 rw [e]
                 exact ⟨hI8.1, hI8.2.lm.trans hM7⟩)
              | (have e : (sTab W D H y.2.2 T.2.2.2.1 T.2.2.2.2.1 T.2.2.2.2.2.1 cur (fF T.2.2.2.2.2.2 cur) (T.2.2.2.2.2.2 cur) S) = sFl W H cur T.2.2.2.1 T.2.2.2.2.1 (fF T.2.2.2.2.2.2 cur) ((tRun W D y.2.2 T.2.2.2.2.1 T.2.2.2.2.2.1 (fF T.2.2.2.2.2.2 cur) (T.2.2.2.2.2.2 cur) S.2.1).1 - (fF T.2.2.2.2.2.2 cur)).toNat (fF T.2.2.2.2.2.2 cur) S5 := by
                   rw [← hS5]
                   unfold sTab
                   rw [if_neg hno, if_neg (by omega)]
                 rw [e]
                 exact ⟨hI6.1, hM6⟩)
        · refine r_aload_n dX0_fillBehindTab_166 rfl ?_
          refine r_iload dX0_fillBehindTab_167 rfl ?_
          refine q_callVF lk_X0_103 dX0_fillBehindTab_169 (c_leaderAt I2 R hs hsv2 Pv (by omega)) (by decide) hs.1 rfl rfl (Nat.le_of_ble_eq_true rfl) (by decide) ?_
          have hP80 : 1 ≤ Pv ∧ Pv ≤ 80 ∧ y.2.2 Pv ≠ 0 ∧ Pv = z := by
            have hz9 : z ≠ -9 := by omega
            rcases hBe with h | h
            · omega
            · have hq : (tPos y.2.2 D S.2.1) = bhG y.2.2 S.2.1 80 := if_neg (by omega)
              have h2 := h.1
              rw [← hq, ← hPv] at h2
              exact ⟨h2.1, h2.2.1, h2.2.2.1, by omega⟩
          rw [if_pos ⟨hP80.1, hP80.2.1, by rw [hgg2 Pv hP80.1 hP80.2.1]; exact hP80.2.2.1⟩, hgg2 Pv hP80.1 hP80.2.1]
          refine r_goto (tgt := 176) dX0_fillBehindTab_172 (by decide) ?_
          have hlv : (y.2.2 Pv - 1) % 4 = (tLd y.2.2 S.2.1) := by
            have hq : (tLd y.2.2 S.2.1) = (y.2.2 (bhG y.2.2 S.2.1 80) - 1) % 4 := if_neg (by omega)
            rw [hq, ← hz, ← hP80.2.2.2]
          rw [hlv, hPv, hKv]
          refine q_callVW lk_X0_106 dX0_fillBehindTab_176 (c_startRun I2 R hRO hC2 hWr hH cur hcu2 hc81 hL2 (tPos y.2.2 D S.2.1) (tKd y.2.2 S.2.1) (tLd y.2.2 S.2.1) (by omega) (by omega) (by omega) (tRun W D y.2.2 T.2.2.2.2.1 T.2.2.2.2.2.1 (fF T.2.2.2.2.2.2 cur) (T.2.2.2.2.2.2 cur) S.2.1) hrun.2.1 hrun.2.2 (by have := hrn.2.2.1; have := hrn.2.1; omega) hI (by omega) ⟨hBB.1, by omega⟩) (by decide) sf_34 rfl rfl (Nat.le_of_ble_eq_true rfl) (by decide) (fun I5 hI5 => ?_)
          have hi5 := (hI.st (cur := cur) (ld := (tLd y.2.2 S.2.1)) (t := (tRun W D y.2.2 T.2.2.2.2.1 T.2.2.2.2.2.1 (fF T.2.2.2.2.2.2 cur) (T.2.2.2.2.2.2 cur) S.2.1)) (pos := (tPos y.2.2 D S.2.1)) (kd := (tKd y.2.2 S.2.1)) ⟨hBB.1, by omega⟩).le (kr1 := k0 + 1) (kp1 := k0 + 1) (by omega) (Int.le_refl _)
          have hcs := sSt_c W cur (tPos y.2.2 D S.2.1) (tKd y.2.2 S.2.1) (tLd y.2.2 S.2.1) (tRun W D y.2.2 T.2.2.2.2.1 T.2.2.2.2.2.1 (fF T.2.2.2.2.2.2 cur) (T.2.2.2.2.2.2 cur) S.2.1) S
          have hF5 : (sSt W cur (tPos y.2.2 D S.2.1) (tKd y.2.2 S.2.1) (tLd y.2.2 S.2.1) (tRun W D y.2.2 T.2.2.2.2.1 T.2.2.2.2.2.1 (fF T.2.2.2.2.2.2 cur) (T.2.2.2.2.2.2 cur) S.2.1) S).2.2.2.2 cur 0 = S.1 := by
            unfold sSt
            rw [sBeg_F0]
            split <;> rfl
          generalize hS5 : sSt W cur (tPos y.2.2 D S.2.1) (tKd y.2.2 S.2.1) (tLd y.2.2 S.2.1) (tRun W D y.2.2 T.2.2.2.2.1 T.2.2.2.2.2.1 (fF T.2.2.2.2.2.2 cur) (T.2.2.2.2.2.2 cur) S.2.1) S = S5 at hi5 hcs hI5 hF5
          have hM5 : LM I5 I := hI5.2.lm.trans hM2
          have hr5 : I5 34 9 = (tRun W D y.2.2 T.2.2.2.2.1 T.2.2.2.2.2.1 (fF T.2.2.2.2.2.2 cur) (T.2.2.2.2.2.2 cur) S.2.1).1 := (hI5.2 _ _ (by omega) (by omega) (by omega)).trans hrun.1
          have hwk : ∀ w : Int, (fF T.2.2.2.2.2.2 cur) ≤ w → w < (tRun W D y.2.2 T.2.2.2.2.1 T.2.2.2.2.2.1 (fF T.2.2.2.2.2.2 cur) (T.2.2.2.2.2.2 cur) S.2.1).1 → Wk T.2.2.2.1 T.2.2.2.2.1 ch (if (tRun W D y.2.2 T.2.2.2.2.1 T.2.2.2.2.2.1 (fF T.2.2.2.2.2.2 cur) (T.2.2.2.2.2.2 cur) S.2.1).1 = (fF T.2.2.2.2.2.2 cur) then fr else T.2.2.2.1 ((tRun W D y.2.2 T.2.2.2.2.1 T.2.2.2.2.2.1 (fF T.2.2.2.2.2.2 cur) (T.2.2.2.2.2.2 cur) S.2.1).1 - 1) + T.2.2.2.2.1 ((tRun W D y.2.2 T.2.2.2.2.1 T.2.2.2.2.2.1 (fF T.2.2.2.2.2.2 cur) (T.2.2.2.2.2.2 cur) S.2.1).1 - 1)) (tRun W D y.2.2 T.2.2.2.2.1 T.2.2.2.2.2.1 (fF T.2.2.2.2.2.2 cur) (T.2.2.2.2.2.2 cur) S.2.1).1 w := fun w w1 w2 => by
            rw [if_neg (by omega)]
            exact (hF.1.sub (e := (tRun W D y.2.2 T.2.2.2.2.1 T.2.2.2.2.2.1 (fF T.2.2.2.2.2.2 cur) (T.2.2.2.2.2.2 cur) S.2.1).1) (by omega) hrn.1.2).1.2.2.2 w w1 w2
          have hE : k0 + 1 ≤ (if (tRun W D y.2.2 T.2.2.2.2.1 T.2.2.2.2.2.1 (fF T.2.2.2.2.2.2 cur) (T.2.2.2.2.2.2 cur) S.2.1).1 = (fF T.2.2.2.2.2.2 cur) then fr else T.2.2.2.1 ((tRun W D y.2.2 T.2.2.2.2.1 T.2.2.2.2.2.1 (fF T.2.2.2.2.2.2 cur) (T.2.2.2.2.2.2 cur) S.2.1).1 - 1) + T.2.2.2.2.1 ((tRun W D y.2.2 T.2.2.2.2.1 T.2.2.2.2.2.1 (fF T.2.2.2.2.2.2 cur) (T.2.2.2.2.2.2 cur) S.2.1).1 - 1)) ∧ (if (tRun W D y.2.2 T.2.2.2.2.1 T.2.2.2.2.2.1 (fF T.2.2.2.2.2.2 cur) (T.2.2.2.2.2.2 cur) S.2.1).1 = (fF T.2.2.2.2.2.2 cur) then fr else T.2.2.2.1 ((tRun W D y.2.2 T.2.2.2.2.1 T.2.2.2.2.2.1 (fF T.2.2.2.2.2.2 cur) (T.2.2.2.2.2.2 cur) S.2.1).1 - 1) + T.2.2.2.2.1 ((tRun W D y.2.2 T.2.2.2.2.1 T.2.2.2.2.2.1 (fF T.2.2.2.2.2.2 cur) (T.2.2.2.2.2.2 cur) S.2.1).1 - 1)) ≤ to := by
            by_cases hra : (tRun W D y.2.2 T.2.2.2.2.1 T.2.2.2.2.2.1 (fF T.2.2.2.2.2.2 cur) (T.2.2.2.2.2.2 cur) S.2.1).1 = (fF T.2.2.2.2.2.2 cur)
            · rw [if_pos hra]; omega
            · rw [if_neg hra]
              have h := hF.1.sub (e := (tRun W D y.2.2 T.2.2.2.2.1 T.2.2.2.2.2.1 (fF T.2.2.2.2.2.2 cur) (T.2.2.2.2.2.2 cur) S.2.1).1) (by omega) hrn.1.2
              have := h.1.bd
              omega
          refine r_aload_n dX0_fillBehindTab_179 rfl ?_
          refine r_iload_n dX0_fillBehindTab_180 rfl ?_
          refine r_aload_n dX0_fillBehindTab_181 rfl ?_
          refine q_getI fl_X0_97 dX0_fillBehindTab_182 sf_34 ?_
          rw [hr5]
          refine q_callVW lk_X0_76 dX0_fillBehindTab_185 (c_flow I5 R hRO (hC.keptM hM5) hWr hH cur ((hM5 _ _ (by omega) (by omega) (by omega)).trans hcur) hc81 (by omega) hI5.1 (fF T.2.2.2.2.2.2 cur) (tRun W D y.2.2 T.2.2.2.2.1 T.2.2.2.2.2.1 (fF T.2.2.2.2.2.2 cur) (T.2.2.2.2.2.2 cur) S.2.1).1 (by omega) (by omega) hwk hi5 (by omega) (fun q => ⟨by have := (hF.1.2.2.1.1 (by omega)).1; omega, by have := hrn.2.2.1 q; omega⟩) (by rw [hF5]; omega)) (by decide) sf_34 rfl rfl (Nat.le_of_ble_eq_true rfl) (by decide) (fun I6 hI6 => ?_)
          have hM6 : LM I6 I := hI6.2.lm.trans hM5
          have hr6 : I6 34 9 = (tRun W D y.2.2 T.2.2.2.2.1 T.2.2.2.2.2.1 (fF T.2.2.2.2.2.2 cur) (T.2.2.2.2.2.2 cur) S.2.1).1 := (hI6.2 _ _ (by omega) (by omega) (by omega)).trans hr5
          have hi6 := Inv.fl (cur := cur) hH hwk ((tRun W D y.2.2 T.2.2.2.2.1 T.2.2.2.2.2.1 (fF T.2.2.2.2.2.2 cur) (T.2.2.2.2.2.2 cur) S.2.1).1 - (fF T.2.2.2.2.2.2 cur)).toNat (fF T.2.2.2.2.2.2 cur) S5 (k0 + 1) (by omega) (Int.le_refl _) hi5 (by omega) (fun q => ⟨by have := (hF.1.2.2.1.1 (by omega)).1; omega, fun q => by omega, fun _ => by have := hrn.2.2.1 (by omega); omega⟩)
          have hF6 : (sFl W H cur T.2.2.2.1 T.2.2.2.2.1 (fF T.2.2.2.2.2.2 cur) ((tRun W D y.2.2 T.2.2.2.2.1 T.2.2.2.2.2.1 (fF T.2.2.2.2.2.2 cur) (T.2.2.2.2.2.2 cur) S.2.1).1 - (fF T.2.2.2.2.2.2 cur)).toNat (fF T.2.2.2.2.2.2 cur) S5).2.2.2.2 cur 0 = S.1 := (sFl_F0 _ _ _).trans hF5
          refine r_aload_n dX0_fillBehindTab_188 rfl ?_
          refine q_getI fl_X0_97 dX0_fillBehindTab_189 sf_34 ?_
          rw [hr6]
          refine r_iload_n dX0_fillBehindTab_192 rfl ?_
          refine r_icmpge (tgt := 209) dX0_fillBehindTab_193 (by decide) (by omega) (by omega) (fun h193 => ?_) (fun h193 => ?_)
          · refine q_vretW dX0_fillBehindTab_209 rfl ?_
            first
              | (have e : (sTab W D H y.2.2 T.2.2.2.1 T.2.2.2.2.1 T.2.2.2.2.2.1 cur (fF T.2.2.2.2.2.2 cur) (T.2.2.2.2.2.2 cur) S) = sFl W H cur T.2.2.2.1 T.2.2.2.2.1 (tRun W D y.2.2 T.2.2.2.2.1 T.2.2.2.2.2.1 (fF T.2.2.2.2.2.2 cur) (T.2.2.2.2.2.2 cur) S.2.1).1 ((T.2.2.2.2.2.2 cur) - (tRun W D y.2.2 T.2.2.2.2.1 T.2.2.2.2.2.1 (fF T.2.2.2.2.2.2 cur) (T.2.2.2.2.2.2 cur) S.2.1).1).toNat (tRun W D y.2.2 T.2.2.2.2.1 T.2.2.2.2.2.1 (fF T.2.2.2.2.2.2 cur) (T.2.2.2.2.2.2 cur) S.2.1).1 (sLine H (sFl W H cur T.2.2.2.1 T.2.2.2.2.1 (fF T.2.2.2.2.2.2 cur) ((tRun W D y.2.2 T.2.2.2.2.1 T.2.2.2.2.2.1 (fF T.2.2.2.2.2.2 cur) (T.2.2.2.2.2.2 cur) S.2.1).1 - (fF T.2.2.2.2.2.2 cur)).toNat (fF T.2.2.2.2.2.2 cur) S5)) := by
                   rw [← hS5]
                   unfold sTab
                   rw [if_neg hno, if_pos (by omega)]
                 rw [e]
                 exact ⟨hI8.1, hI8.2.lm.trans hM7⟩)
              | (have e : (sTab W D H y.2.2 T.2.2.2.1 T.2.2.2.2.1 T.2.2.2.2.2.1 cur (fF T.2.2.2.2.2.2 cur) (T.2.2.2.2.2.2 cur) S) = sFl W H cur T.2.2.2.1 T.2.2.2.2.1 (fF T.2.2.2.2.2.2 cur) ((tRun W D y.2.2 T.2.2.2.2.1 T.2.2.2.2.2.1 (fF T.2.2.2.2.2.2 cur) (T.2.2.2.2.2.2 cur) S.2.1).1 - (fF T.2.2.2.2.2.2 cur)).toNat (fF T.2.2.2.2.2.2 cur) S5 := by
                   rw [← hS5]
                   unfold sTab
                   rw [if_neg hno, if_neg (by omega)]
                 rw [e]
                 exact ⟨hI6.1, hM6⟩)
          · refine r_aload_n dX0_fillBehindTab_196 rfl ?_
            have hra : (tRun W D y.2.2 T.2.2.2.2.1 T.2.2.2.2.2.1 (fF T.2.2.2.2.2.2 cur) (T.2.2.2.2.2.2 cur) S.2.1).1 ≠ (fF T.2.2.2.2.2.2 cur) := by omega
            rw [if_neg hra] at hi6 hE
            have hsep := (hF.1.2.2.2 ((tRun W D y.2.2 T.2.2.2.2.1 T.2.2.2.2.2.1 (fF T.2.2.2.2.2.2 cur) (T.2.2.2.2.2.2 cur) S.2.1).1 - 1) (by omega) (by omega)).2.2.1 (by omega)
            rw [show (tRun W D y.2.2 T.2.2.2.2.1 T.2.2.2.2.2.1 (fF T.2.2.2.2.2.2 cur) (T.2.2.2.2.2.2 cur) S.2.1).1 - 1 + 1 = (tRun W D y.2.2 T.2.2.2.2.1 T.2.2.2.2.2.1 (fF T.2.2.2.2.2.2 cur) (T.2.2.2.2.2.2 cur) S.2.1).1 by omega] at hsep
            have hwr := (hF.1.2.2.2 (tRun W D y.2.2 T.2.2.2.2.1 T.2.2.2.2.2.1 (fF T.2.2.2.2.2.2 cur) (T.2.2.2.2.2.2 cur) S.2.1).1 (by omega) (by omega)).1
            refine q_callVW lk_X0_100 dX0_fillBehindTab_197 (c_startLine I6 R hRO) (by decide) sf_34 rfl rfl (Nat.le_of_ble_eq_true rfl) (by decide) (fun I7 hI7 => ?_)
            have hH6 : I6 34 5 = H := (hM6 _ _ (by omega) (by omega) (by omega)).trans hC.2.2.1
            rw [hH6] at hI7
            have hL7 := hI6.1.line (H := H)
            rw [← hI7] at hL7
            have hK7 : LK I7 I6 := fun x j p q r => by rw [hI7, u2_n (by omega), u2_n (by omega)]
            have hM7 : LM I7 I := hK7.lm.trans hM6
            have hr7 : I7 34 9 = (tRun W D y.2.2 T.2.2.2.2.1 T.2.2.2.2.2.1 (fF T.2.2.2.2.2.2 cur) (T.2.2.2.2.2.2 cur) S.2.1).1 := (hK7 _ _ (by omega) (by omega) (by omega)).trans hr6
            have hi7 := (hi6.line (H := H) ⟨hH.1, by omega⟩)
            have hi6r := hi6.1
            refine r_aload_n dX0_fillBehindTab_200 rfl ?_
            refine r_aload_n dX0_fillBehindTab_201 rfl ?_
            refine q_getI fl_X0_97 dX0_fillBehindTab_202 sf_34 ?_
            rw [hr7]
            refine r_iload_n dX0_fillBehindTab_205 rfl ?_
            refine q_callVW lk_X0_76 dX0_fillBehindTab_206 (c_flow I7 R hRO (hC.keptM hM7) hWr hH cur ((hM7 _ _ (by omega) (by omega) (by omega)).trans hcur) hc81 (by omega) hL7 (tRun W D y.2.2 T.2.2.2.2.1 T.2.2.2.2.2.1 (fF T.2.2.2.2.2.2 cur) (T.2.2.2.2.2.2 cur) S.2.1).1 (T.2.2.2.2.2.2 cur) (by omega) hto (fun w w1 w2 => hF.1.2.2.2 w (by omega) w2) (hi7.le (Int.le_refl _) (by omega)) (by omega) (fun q => ⟨by omega, hH.2⟩) (by show 0 ≤ (sFl W H cur T.2.2.2.1 T.2.2.2.2.1 (fF T.2.2.2.2.2.2 cur) ((tRun W D y.2.2 T.2.2.2.2.1 T.2.2.2.2.2.1 (fF T.2.2.2.2.2.2 cur) (T.2.2.2.2.2.2 cur) S.2.1).1 - (fF T.2.2.2.2.2.2 cur)).toNat (fF T.2.2.2.2.2.2 cur) S5).2.2.2.2 cur 0 ∧ (sFl W H cur T.2.2.2.1 T.2.2.2.2.1 (fF T.2.2.2.2.2.2 cur) ((tRun W D y.2.2 T.2.2.2.2.1 T.2.2.2.2.2.1 (fF T.2.2.2.2.2.2 cur) (T.2.2.2.2.2.2 cur) S.2.1).1 - (fF T.2.2.2.2.2.2 cur)).toNat (fF T.2.2.2.2.2.2 cur) S5).2.2.2.2 cur 0 ≤ 80; rw [hF6]; omega)) (by decide) sf_34 rfl rfl (Nat.le_of_ble_eq_true rfl) (by decide) (fun I8 hI8 => ?_)
            refine q_vretW dX0_fillBehindTab_209 rfl ?_
            first
              | (have e : (sTab W D H y.2.2 T.2.2.2.1 T.2.2.2.2.1 T.2.2.2.2.2.1 cur (fF T.2.2.2.2.2.2 cur) (T.2.2.2.2.2.2 cur) S) = sFl W H cur T.2.2.2.1 T.2.2.2.2.1 (tRun W D y.2.2 T.2.2.2.2.1 T.2.2.2.2.2.1 (fF T.2.2.2.2.2.2 cur) (T.2.2.2.2.2.2 cur) S.2.1).1 ((T.2.2.2.2.2.2 cur) - (tRun W D y.2.2 T.2.2.2.2.1 T.2.2.2.2.2.1 (fF T.2.2.2.2.2.2 cur) (T.2.2.2.2.2.2 cur) S.2.1).1).toNat (tRun W D y.2.2 T.2.2.2.2.1 T.2.2.2.2.2.1 (fF T.2.2.2.2.2.2 cur) (T.2.2.2.2.2.2 cur) S.2.1).1 (sLine H (sFl W H cur T.2.2.2.1 T.2.2.2.2.1 (fF T.2.2.2.2.2.2 cur) ((tRun W D y.2.2 T.2.2.2.2.1 T.2.2.2.2.2.1 (fF T.2.2.2.2.2.2 cur) (T.2.2.2.2.2.2 cur) S.2.1).1 - (fF T.2.2.2.2.2.2 cur)).toNat (fF T.2.2.2.2.2.2 cur) S5)) := by
                   rw [← hS5]
                   unfold sTab
                   rw [if_neg hno, if_pos (by omega)]
                 rw [e]
                 exact ⟨hI8.1, hI8.2.lm.trans hM7⟩)
              | (have e : (sTab W D H y.2.2 T.2.2.2.1 T.2.2.2.2.1 T.2.2.2.2.2.1 cur (fF T.2.2.2.2.2.2 cur) (T.2.2.2.2.2.2 cur) S) = sFl W H cur T.2.2.2.1 T.2.2.2.2.1 (fF T.2.2.2.2.2.2 cur) ((tRun W D y.2.2 T.2.2.2.2.1 T.2.2.2.2.2.1 (fF T.2.2.2.2.2.2 cur) (T.2.2.2.2.2.2 cur) S.2.1).1 - (fF T.2.2.2.2.2.2 cur)).toNat (fF T.2.2.2.2.2.2 cur) S5 := by
                   rw [← hS5]
                   unfold sTab
                   rw [if_neg hno, if_neg (by omega)]
                 rw [e]
                 exact ⟨hI6.1, hM6⟩)
      · refine r_aload_n dX0_fillBehindTab_127 rfl ?_
        refine q_getI fl_X0_97 dX0_fillBehindTab_128 sf_34 ?_
        rw [hrun.1]
        refine r_iload_n dX0_fillBehindTab_131 rfl ?_
        refine r_icmpne (tgt := 156) dX0_fillBehindTab_132 (by decide) (by omega) (by omega) (fun h132 => ?_) (fun h132 => ?_)
        · refine r_aload_n dX0_fillBehindTab_156 rfl ?_
          have hno : ¬ (W < (tPos y.2.2 D S.2.1) ∨ ((fF T.2.2.2.2.2.2 cur) < (T.2.2.2.2.2.2 cur) ∧ (tRun W D y.2.2 T.2.2.2.2.1 T.2.2.2.2.2.1 (fF T.2.2.2.2.2.2 cur) (T.2.2.2.2.2.2 cur) S.2.1).1 = (fF T.2.2.2.2.2.2 cur))) := by omega
          have hBB := rB_in (D := D) (c := S.2.1) (kd := (tKd y.2.2 S.2.1)) (t := (tRun W D y.2.2 T.2.2.2.2.1 T.2.2.2.2.2.1 (fF T.2.2.2.2.2.2 cur) (T.2.2.2.2.2.2 cur) S.2.1)) (a := (fF T.2.2.2.2.2.2 cur)) (pos := (tPos y.2.2 D S.2.1)) hc0 ⟨hpb.1.1, by omega⟩ ⟨hrn.1.1, hrn.2.1, hrn.2.2.1, hrn.2.2.2⟩
          refine r_iload dX0_fillBehindTab_157 rfl ?_
          refine r_iload dX0_fillBehindTab_159 rfl ?_
          refine r_iload dX0_fillBehindTab_161 rfl ?_
          refine r_ifeq (tgt := 175) dX0_fillBehindTab_163 (by decide) (by omega) (fun h163 => ?_) (fun h163 => ?_)
          · refine r_iconst dX0_fillBehindTab_175 ?_
            have hlv : (0 : Int) = (tLd y.2.2 S.2.1) := (if_pos (by omega) : (tLd y.2.2 S.2.1) = 0).symm
            rw [hlv, hPv, hKv]
            refine q_callVW lk_X0_106 dX0_fillBehindTab_176 (c_startRun I2 R hRO hC2 hWr hH cur hcu2 hc81 hL2 (tPos y.2.2 D S.2.1) (tKd y.2.2 S.2.1) (tLd y.2.2 S.2.1) (by omega) (by omega) (by omega) (tRun W D y.2.2 T.2.2.2.2.1 T.2.2.2.2.2.1 (fF T.2.2.2.2.2.2 cur) (T.2.2.2.2.2.2 cur) S.2.1) hrun.2.1 hrun.2.2 (by have := hrn.2.2.1; have := hrn.2.1; omega) hI (by omega) ⟨hBB.1, by omega⟩) (by decide) sf_34 rfl rfl (Nat.le_of_ble_eq_true rfl) (by decide) (fun I5 hI5 => ?_)
            have hi5 := (hI.st (cur := cur) (ld := (tLd y.2.2 S.2.1)) (t := (tRun W D y.2.2 T.2.2.2.2.1 T.2.2.2.2.2.1 (fF T.2.2.2.2.2.2 cur) (T.2.2.2.2.2.2 cur) S.2.1)) (pos := (tPos y.2.2 D S.2.1)) (kd := (tKd y.2.2 S.2.1)) ⟨hBB.1, by omega⟩).le (kr1 := k0 + 1) (kp1 := k0 + 1) (by omega) (Int.le_refl _)
            have hcs := sSt_c W cur (tPos y.2.2 D S.2.1) (tKd y.2.2 S.2.1) (tLd y.2.2 S.2.1) (tRun W D y.2.2 T.2.2.2.2.1 T.2.2.2.2.2.1 (fF T.2.2.2.2.2.2 cur) (T.2.2.2.2.2.2 cur) S.2.1) S
            have hF5 : (sSt W cur (tPos y.2.2 D S.2.1) (tKd y.2.2 S.2.1) (tLd y.2.2 S.2.1) (tRun W D y.2.2 T.2.2.2.2.1 T.2.2.2.2.2.1 (fF T.2.2.2.2.2.2 cur) (T.2.2.2.2.2.2 cur) S.2.1) S).2.2.2.2 cur 0 = S.1 := by
              unfold sSt
              rw [sBeg_F0]
              split <;> rfl
            generalize hS5 : sSt W cur (tPos y.2.2 D S.2.1) (tKd y.2.2 S.2.1) (tLd y.2.2 S.2.1) (tRun W D y.2.2 T.2.2.2.2.1 T.2.2.2.2.2.1 (fF T.2.2.2.2.2.2 cur) (T.2.2.2.2.2.2 cur) S.2.1) S = S5 at hi5 hcs hI5 hF5
            have hM5 : LM I5 I := hI5.2.lm.trans hM2
            have hr5 : I5 34 9 = (tRun W D y.2.2 T.2.2.2.2.1 T.2.2.2.2.2.1 (fF T.2.2.2.2.2.2 cur) (T.2.2.2.2.2.2 cur) S.2.1).1 := (hI5.2 _ _ (by omega) (by omega) (by omega)).trans hrun.1
            have hwk : ∀ w : Int, (fF T.2.2.2.2.2.2 cur) ≤ w → w < (tRun W D y.2.2 T.2.2.2.2.1 T.2.2.2.2.2.1 (fF T.2.2.2.2.2.2 cur) (T.2.2.2.2.2.2 cur) S.2.1).1 → Wk T.2.2.2.1 T.2.2.2.2.1 ch (if (tRun W D y.2.2 T.2.2.2.2.1 T.2.2.2.2.2.1 (fF T.2.2.2.2.2.2 cur) (T.2.2.2.2.2.2 cur) S.2.1).1 = (fF T.2.2.2.2.2.2 cur) then fr else T.2.2.2.1 ((tRun W D y.2.2 T.2.2.2.2.1 T.2.2.2.2.2.1 (fF T.2.2.2.2.2.2 cur) (T.2.2.2.2.2.2 cur) S.2.1).1 - 1) + T.2.2.2.2.1 ((tRun W D y.2.2 T.2.2.2.2.1 T.2.2.2.2.2.1 (fF T.2.2.2.2.2.2 cur) (T.2.2.2.2.2.2 cur) S.2.1).1 - 1)) (tRun W D y.2.2 T.2.2.2.2.1 T.2.2.2.2.2.1 (fF T.2.2.2.2.2.2 cur) (T.2.2.2.2.2.2 cur) S.2.1).1 w := fun w w1 w2 => by
              rw [if_neg (by omega)]
              exact (hF.1.sub (e := (tRun W D y.2.2 T.2.2.2.2.1 T.2.2.2.2.2.1 (fF T.2.2.2.2.2.2 cur) (T.2.2.2.2.2.2 cur) S.2.1).1) (by omega) hrn.1.2).1.2.2.2 w w1 w2
            have hE : k0 + 1 ≤ (if (tRun W D y.2.2 T.2.2.2.2.1 T.2.2.2.2.2.1 (fF T.2.2.2.2.2.2 cur) (T.2.2.2.2.2.2 cur) S.2.1).1 = (fF T.2.2.2.2.2.2 cur) then fr else T.2.2.2.1 ((tRun W D y.2.2 T.2.2.2.2.1 T.2.2.2.2.2.1 (fF T.2.2.2.2.2.2 cur) (T.2.2.2.2.2.2 cur) S.2.1).1 - 1) + T.2.2.2.2.1 ((tRun W D y.2.2 T.2.2.2.2.1 T.2.2.2.2.2.1 (fF T.2.2.2.2.2.2 cur) (T.2.2.2.2.2.2 cur) S.2.1).1 - 1)) ∧ (if (tRun W D y.2.2 T.2.2.2.2.1 T.2.2.2.2.2.1 (fF T.2.2.2.2.2.2 cur) (T.2.2.2.2.2.2 cur) S.2.1).1 = (fF T.2.2.2.2.2.2 cur) then fr else T.2.2.2.1 ((tRun W D y.2.2 T.2.2.2.2.1 T.2.2.2.2.2.1 (fF T.2.2.2.2.2.2 cur) (T.2.2.2.2.2.2 cur) S.2.1).1 - 1) + T.2.2.2.2.1 ((tRun W D y.2.2 T.2.2.2.2.1 T.2.2.2.2.2.1 (fF T.2.2.2.2.2.2 cur) (T.2.2.2.2.2.2 cur) S.2.1).1 - 1)) ≤ to := by
              by_cases hra : (tRun W D y.2.2 T.2.2.2.2.1 T.2.2.2.2.2.1 (fF T.2.2.2.2.2.2 cur) (T.2.2.2.2.2.2 cur) S.2.1).1 = (fF T.2.2.2.2.2.2 cur)
              · rw [if_pos hra]; omega
              · rw [if_neg hra]
                have h := hF.1.sub (e := (tRun W D y.2.2 T.2.2.2.2.1 T.2.2.2.2.2.1 (fF T.2.2.2.2.2.2 cur) (T.2.2.2.2.2.2 cur) S.2.1).1) (by omega) hrn.1.2
                have := h.1.bd
                omega
            refine r_aload_n dX0_fillBehindTab_179 rfl ?_
            refine r_iload_n dX0_fillBehindTab_180 rfl ?_
            refine r_aload_n dX0_fillBehindTab_181 rfl ?_
            refine q_getI fl_X0_97 dX0_fillBehindTab_182 sf_34 ?_
            rw [hr5]
            refine q_callVW lk_X0_76 dX0_fillBehindTab_185 (c_flow I5 R hRO (hC.keptM hM5) hWr hH cur ((hM5 _ _ (by omega) (by omega) (by omega)).trans hcur) hc81 (by omega) hI5.1 (fF T.2.2.2.2.2.2 cur) (tRun W D y.2.2 T.2.2.2.2.1 T.2.2.2.2.2.1 (fF T.2.2.2.2.2.2 cur) (T.2.2.2.2.2.2 cur) S.2.1).1 (by omega) (by omega) hwk hi5 (by omega) (fun q => ⟨by have := (hF.1.2.2.1.1 (by omega)).1; omega, by have := hrn.2.2.1 q; omega⟩) (by rw [hF5]; omega)) (by decide) sf_34 rfl rfl (Nat.le_of_ble_eq_true rfl) (by decide) (fun I6 hI6 => ?_)
            have hM6 : LM I6 I := hI6.2.lm.trans hM5
            have hr6 : I6 34 9 = (tRun W D y.2.2 T.2.2.2.2.1 T.2.2.2.2.2.1 (fF T.2.2.2.2.2.2 cur) (T.2.2.2.2.2.2 cur) S.2.1).1 := (hI6.2 _ _ (by omega) (by omega) (by omega)).trans hr5
            have hi6 := Inv.fl (cur := cur) hH hwk ((tRun W D y.2.2 T.2.2.2.2.1 T.2.2.2.2.2.1 (fF T.2.2.2.2.2.2 cur) (T.2.2.2.2.2.2 cur) S.2.1).1 - (fF T.2.2.2.2.2.2 cur)).toNat (fF T.2.2.2.2.2.2 cur) S5 (k0 + 1) (by omega) (Int.le_refl _) hi5 (by omega) (fun q => ⟨by have := (hF.1.2.2.1.1 (by omega)).1; omega, fun q => by omega, fun _ => by have := hrn.2.2.1 (by omega); omega⟩)
            have hF6 : (sFl W H cur T.2.2.2.1 T.2.2.2.2.1 (fF T.2.2.2.2.2.2 cur) ((tRun W D y.2.2 T.2.2.2.2.1 T.2.2.2.2.2.1 (fF T.2.2.2.2.2.2 cur) (T.2.2.2.2.2.2 cur) S.2.1).1 - (fF T.2.2.2.2.2.2 cur)).toNat (fF T.2.2.2.2.2.2 cur) S5).2.2.2.2 cur 0 = S.1 := (sFl_F0 _ _ _).trans hF5
            refine r_aload_n dX0_fillBehindTab_188 rfl ?_
            refine q_getI fl_X0_97 dX0_fillBehindTab_189 sf_34 ?_
            rw [hr6]
            refine r_iload_n dX0_fillBehindTab_192 rfl ?_
            refine r_icmpge (tgt := 209) dX0_fillBehindTab_193 (by decide) (by omega) (by omega) (fun h193 => ?_) (fun h193 => ?_)
            · refine q_vretW dX0_fillBehindTab_209 rfl ?_
              first
                | (have e : (sTab W D H y.2.2 T.2.2.2.1 T.2.2.2.2.1 T.2.2.2.2.2.1 cur (fF T.2.2.2.2.2.2 cur) (T.2.2.2.2.2.2 cur) S) = sFl W H cur T.2.2.2.1 T.2.2.2.2.1 (tRun W D y.2.2 T.2.2.2.2.1 T.2.2.2.2.2.1 (fF T.2.2.2.2.2.2 cur) (T.2.2.2.2.2.2 cur) S.2.1).1 ((T.2.2.2.2.2.2 cur) - (tRun W D y.2.2 T.2.2.2.2.1 T.2.2.2.2.2.1 (fF T.2.2.2.2.2.2 cur) (T.2.2.2.2.2.2 cur) S.2.1).1).toNat (tRun W D y.2.2 T.2.2.2.2.1 T.2.2.2.2.2.1 (fF T.2.2.2.2.2.2 cur) (T.2.2.2.2.2.2 cur) S.2.1).1 (sLine H (sFl W H cur T.2.2.2.1 T.2.2.2.2.1 (fF T.2.2.2.2.2.2 cur) ((tRun W D y.2.2 T.2.2.2.2.1 T.2.2.2.2.2.1 (fF T.2.2.2.2.2.2 cur) (T.2.2.2.2.2.2 cur) S.2.1).1 - (fF T.2.2.2.2.2.2 cur)).toNat (fF T.2.2.2.2.2.2 cur) S5)) := by
                     rw [← hS5]
                     unfold sTab
                     rw [if_neg hno, if_pos (by omega)]
                   rw [e]
                   exact ⟨hI8.1, hI8.2.lm.trans hM7⟩)
                | (have e : (sTab W D H y.2.2 T.2.2.2.1 T.2.2.2.2.1 T.2.2.2.2.2.1 cur (fF T.2.2.2.2.2.2 cur) (T.2.2.2.2.2.2 cur) S) = sFl W H cur T.2.2.2.1 T.2.2.2.2.1 (fF T.2.2.2.2.2.2 cur) ((tRun W D y.2.2 T.2.2.2.2.1 T.2.2.2.2.2.1 (fF T.2.2.2.2.2.2 cur) (T.2.2.2.2.2.2 cur) S.2.1).1 - (fF T.2.2.2.2.2.2 cur)).toNat (fF T.2.2.2.2.2.2 cur) S5 := by
                     rw [← hS5]
                     unfold sTab
                     rw [if_neg hno, if_neg (by omega)]
                   rw [e]
                   exact ⟨hI6.1, hM6⟩)
            · refine r_aload_n dX0_fillBehindTab_196 rfl ?_
              have hra : (tRun W D y.2.2 T.2.2.2.2.1 T.2.2.2.2.2.1 (fF T.2.2.2.2.2.2 cur) (T.2.2.2.2.2.2 cur) S.2.1).1 ≠ (fF T.2.2.2.2.2.2 cur) := by omega
              rw [if_neg hra] at hi6 hE
              have hsep := (hF.1.2.2.2 ((tRun W D y.2.2 T.2.2.2.2.1 T.2.2.2.2.2.1 (fF T.2.2.2.2.2.2 cur) (T.2.2.2.2.2.2 cur) S.2.1).1 - 1) (by omega) (by omega)).2.2.1 (by omega)
              rw [show (tRun W D y.2.2 T.2.2.2.2.1 T.2.2.2.2.2.1 (fF T.2.2.2.2.2.2 cur) (T.2.2.2.2.2.2 cur) S.2.1).1 - 1 + 1 = (tRun W D y.2.2 T.2.2.2.2.1 T.2.2.2.2.2.1 (fF T.2.2.2.2.2.2 cur) (T.2.2.2.2.2.2 cur) S.2.1).1 by omega] at hsep
              have hwr := (hF.1.2.2.2 (tRun W D y.2.2 T.2.2.2.2.1 T.2.2.2.2.2.1 (fF T.2.2.2.2.2.2 cur) (T.2.2.2.2.2.2 cur) S.2.1).1 (by omega) (by omega)).1
              refine q_callVW lk_X0_100 dX0_fillBehindTab_197 (c_startLine I6 R hRO) (by decide) sf_34 rfl rfl (Nat.le_of_ble_eq_true rfl) (by decide) (fun I7 hI7 => ?_)
              have hH6 : I6 34 5 = H := (hM6 _ _ (by omega) (by omega) (by omega)).trans hC.2.2.1
              rw [hH6] at hI7
              have hL7 := hI6.1.line (H := H)
              rw [← hI7] at hL7
              have hK7 : LK I7 I6 := fun x j p q r => by rw [hI7, u2_n (by omega), u2_n (by omega)]
              have hM7 : LM I7 I := hK7.lm.trans hM6
              have hr7 : I7 34 9 = (tRun W D y.2.2 T.2.2.2.2.1 T.2.2.2.2.2.1 (fF T.2.2.2.2.2.2 cur) (T.2.2.2.2.2.2 cur) S.2.1).1 := (hK7 _ _ (by omega) (by omega) (by omega)).trans hr6
              have hi7 := (hi6.line (H := H) ⟨hH.1, by omega⟩)
              have hi6r := hi6.1
              refine r_aload_n dX0_fillBehindTab_200 rfl ?_
              refine r_aload_n dX0_fillBehindTab_201 rfl ?_
              refine q_getI fl_X0_97 dX0_fillBehindTab_202 sf_34 ?_
              rw [hr7]
              refine r_iload_n dX0_fillBehindTab_205 rfl ?_
              refine q_callVW lk_X0_76 dX0_fillBehindTab_206 (c_flow I7 R hRO (hC.keptM hM7) hWr hH cur ((hM7 _ _ (by omega) (by omega) (by omega)).trans hcur) hc81 (by omega) hL7 (tRun W D y.2.2 T.2.2.2.2.1 T.2.2.2.2.2.1 (fF T.2.2.2.2.2.2 cur) (T.2.2.2.2.2.2 cur) S.2.1).1 (T.2.2.2.2.2.2 cur) (by omega) hto (fun w w1 w2 => hF.1.2.2.2 w (by omega) w2) (hi7.le (Int.le_refl _) (by omega)) (by omega) (fun q => ⟨by omega, hH.2⟩) (by show 0 ≤ (sFl W H cur T.2.2.2.1 T.2.2.2.2.1 (fF T.2.2.2.2.2.2 cur) ((tRun W D y.2.2 T.2.2.2.2.1 T.2.2.2.2.2.1 (fF T.2.2.2.2.2.2 cur) (T.2.2.2.2.2.2 cur) S.2.1).1 - (fF T.2.2.2.2.2.2 cur)).toNat (fF T.2.2.2.2.2.2 cur) S5).2.2.2.2 cur 0 ∧ (sFl W H cur T.2.2.2.1 T.2.2.2.2.1 (fF T.2.2.2.2.2.2 cur) ((tRun W D y.2.2 T.2.2.2.2.1 T.2.2.2.2.2.1 (fF T.2.2.2.2.2.2 cur) (T.2.2.2.2.2.2 cur) S.2.1).1 - (fF T.2.2.2.2.2.2 cur)).toNat (fF T.2.2.2.2.2.2 cur) S5).2.2.2.2 cur 0 ≤ 80; rw [hF6]; omega)) (by decide) sf_34 rfl rfl (Nat.le_of_ble_eq_true rfl) (by decide) (fun I8 hI8 => ?_)
              refine q_vretW dX0_fillBehindTab_209 rfl ?_
              first
                | (have e : (sTab W D H y.2.2 T.2.2.2.1 T.2.2.2.2.1 T.2.2.2.2.2.1 cur (fF T.2.2.2.2.2.2 cur) (T.2.2.2.2.2.2 cur) S) = sFl W H cur T.2.2.2.1 T.2.2.2.2.1 (tRun W D y.2.2 T.2.2.2.2.1 T.2.2.2.2.2.1 (fF T.2.2.2.2.2.2 cur) (T.2.2.2.2.2.2 cur) S.2.1).1 ((T.2.2.2.2.2.2 cur) - (tRun W D y.2.2 T.2.2.2.2.1 T.2.2.2.2.2.1 (fF T.2.2.2.2.2.2 cur) (T.2.2.2.2.2.2 cur) S.2.1).1).toNat (tRun W D y.2.2 T.2.2.2.2.1 T.2.2.2.2.2.1 (fF T.2.2.2.2.2.2 cur) (T.2.2.2.2.2.2 cur) S.2.1).1 (sLine H (sFl W H cur T.2.2.2.1 T.2.2.2.2.1 (fF T.2.2.2.2.2.2 cur) ((tRun W D y.2.2 T.2.2.2.2.1 T.2.2.2.2.2.1 (fF T.2.2.2.2.2.2 cur) (T.2.2.2.2.2.2 cur) S.2.1).1 - (fF T.2.2.2.2.2.2 cur)).toNat (fF T.2.2.2.2.2.2 cur) S5)) := by
                     rw [← hS5]
                     unfold sTab
                     rw [if_neg hno, if_pos (by omega)]
                   rw [e]
                   exact ⟨hI8.1, hI8.2.lm.trans hM7⟩)
                | (have e : (sTab W D H y.2.2 T.2.2.2.1 T.2.2.2.2.1 T.2.2.2.2.2.1 cur (fF T.2.2.2.2.2.2 cur) (T.2.2.2.2.2.2 cur) S) = sFl W H cur T.2.2.2.1 T.2.2.2.2.1 (fF T.2.2.2.2.2.2 cur) ((tRun W D y.2.2 T.2.2.2.2.1 T.2.2.2.2.2.1 (fF T.2.2.2.2.2.2 cur) (T.2.2.2.2.2.2 cur) S.2.1).1 - (fF T.2.2.2.2.2.2 cur)).toNat (fF T.2.2.2.2.2.2 cur) S5 := by
                     rw [← hS5]
                     unfold sTab
                     rw [if_neg hno, if_neg (by omega)]
                   rw [e]
                   exact ⟨hI6.1, hM6⟩)
          · refine r_aload_n dX0_fillBehindTab_166 rfl ?_
            refine r_iload dX0_fillBehindTab_167 rfl ?_
            refine q_callVF lk_X0_103 dX0_fillBehindTab_169 (c_leaderAt I2 R hs hsv2 Pv (by omega)) (by decide) hs.1 rfl rfl (Nat.le_of_ble_eq_true rfl) (by decide) ?_
            have hP80 : 1 ≤ Pv ∧ Pv ≤ 80 ∧ y.2.2 Pv ≠ 0 ∧ Pv = z := by
              have hz9 : z ≠ -9 := by omega
              rcases hBe with h | h
              · omega
              · have hq : (tPos y.2.2 D S.2.1) = bhG y.2.2 S.2.1 80 := if_neg (by omega)
                have h2 := h.1
                rw [← hq, ← hPv] at h2
                exact ⟨h2.1, h2.2.1, h2.2.2.1, by omega⟩
            rw [if_pos ⟨hP80.1, hP80.2.1, by rw [hgg2 Pv hP80.1 hP80.2.1]; exact hP80.2.2.1⟩, hgg2 Pv hP80.1 hP80.2.1]
            refine r_goto (tgt := 176) dX0_fillBehindTab_172 (by decide) ?_
            have hlv : (y.2.2 Pv - 1) % 4 = (tLd y.2.2 S.2.1) := by
              have hq : (tLd y.2.2 S.2.1) = (y.2.2 (bhG y.2.2 S.2.1 80) - 1) % 4 := if_neg (by omega)
              rw [hq, ← hz, ← hP80.2.2.2]
            rw [hlv, hPv, hKv]
            refine q_callVW lk_X0_106 dX0_fillBehindTab_176 (c_startRun I2 R hRO hC2 hWr hH cur hcu2 hc81 hL2 (tPos y.2.2 D S.2.1) (tKd y.2.2 S.2.1) (tLd y.2.2 S.2.1) (by omega) (by omega) (by omega) (tRun W D y.2.2 T.2.2.2.2.1 T.2.2.2.2.2.1 (fF T.2.2.2.2.2.2 cur) (T.2.2.2.2.2.2 cur) S.2.1) hrun.2.1 hrun.2.2 (by have := hrn.2.2.1; have := hrn.2.1; omega) hI (by omega) ⟨hBB.1, by omega⟩) (by decide) sf_34 rfl rfl (Nat.le_of_ble_eq_true rfl) (by decide) (fun I5 hI5 => ?_)
            have hi5 := (hI.st (cur := cur) (ld := (tLd y.2.2 S.2.1)) (t := (tRun W D y.2.2 T.2.2.2.2.1 T.2.2.2.2.2.1 (fF T.2.2.2.2.2.2 cur) (T.2.2.2.2.2.2 cur) S.2.1)) (pos := (tPos y.2.2 D S.2.1)) (kd := (tKd y.2.2 S.2.1)) ⟨hBB.1, by omega⟩).le (kr1 := k0 + 1) (kp1 := k0 + 1) (by omega) (Int.le_refl _)
            have hcs := sSt_c W cur (tPos y.2.2 D S.2.1) (tKd y.2.2 S.2.1) (tLd y.2.2 S.2.1) (tRun W D y.2.2 T.2.2.2.2.1 T.2.2.2.2.2.1 (fF T.2.2.2.2.2.2 cur) (T.2.2.2.2.2.2 cur) S.2.1) S
            have hF5 : (sSt W cur (tPos y.2.2 D S.2.1) (tKd y.2.2 S.2.1) (tLd y.2.2 S.2.1) (tRun W D y.2.2 T.2.2.2.2.1 T.2.2.2.2.2.1 (fF T.2.2.2.2.2.2 cur) (T.2.2.2.2.2.2 cur) S.2.1) S).2.2.2.2 cur 0 = S.1 := by
              unfold sSt
              rw [sBeg_F0]
              split <;> rfl
            generalize hS5 : sSt W cur (tPos y.2.2 D S.2.1) (tKd y.2.2 S.2.1) (tLd y.2.2 S.2.1) (tRun W D y.2.2 T.2.2.2.2.1 T.2.2.2.2.2.1 (fF T.2.2.2.2.2.2 cur) (T.2.2.2.2.2.2 cur) S.2.1) S = S5 at hi5 hcs hI5 hF5
            have hM5 : LM I5 I := hI5.2.lm.trans hM2
            have hr5 : I5 34 9 = (tRun W D y.2.2 T.2.2.2.2.1 T.2.2.2.2.2.1 (fF T.2.2.2.2.2.2 cur) (T.2.2.2.2.2.2 cur) S.2.1).1 := (hI5.2 _ _ (by omega) (by omega) (by omega)).trans hrun.1
            have hwk : ∀ w : Int, (fF T.2.2.2.2.2.2 cur) ≤ w → w < (tRun W D y.2.2 T.2.2.2.2.1 T.2.2.2.2.2.1 (fF T.2.2.2.2.2.2 cur) (T.2.2.2.2.2.2 cur) S.2.1).1 → Wk T.2.2.2.1 T.2.2.2.2.1 ch (if (tRun W D y.2.2 T.2.2.2.2.1 T.2.2.2.2.2.1 (fF T.2.2.2.2.2.2 cur) (T.2.2.2.2.2.2 cur) S.2.1).1 = (fF T.2.2.2.2.2.2 cur) then fr else T.2.2.2.1 ((tRun W D y.2.2 T.2.2.2.2.1 T.2.2.2.2.2.1 (fF T.2.2.2.2.2.2 cur) (T.2.2.2.2.2.2 cur) S.2.1).1 - 1) + T.2.2.2.2.1 ((tRun W D y.2.2 T.2.2.2.2.1 T.2.2.2.2.2.1 (fF T.2.2.2.2.2.2 cur) (T.2.2.2.2.2.2 cur) S.2.1).1 - 1)) (tRun W D y.2.2 T.2.2.2.2.1 T.2.2.2.2.2.1 (fF T.2.2.2.2.2.2 cur) (T.2.2.2.2.2.2 cur) S.2.1).1 w := fun w w1 w2 => by
              rw [if_neg (by omega)]
              exact (hF.1.sub (e := (tRun W D y.2.2 T.2.2.2.2.1 T.2.2.2.2.2.1 (fF T.2.2.2.2.2.2 cur) (T.2.2.2.2.2.2 cur) S.2.1).1) (by omega) hrn.1.2).1.2.2.2 w w1 w2
            have hE : k0 + 1 ≤ (if (tRun W D y.2.2 T.2.2.2.2.1 T.2.2.2.2.2.1 (fF T.2.2.2.2.2.2 cur) (T.2.2.2.2.2.2 cur) S.2.1).1 = (fF T.2.2.2.2.2.2 cur) then fr else T.2.2.2.1 ((tRun W D y.2.2 T.2.2.2.2.1 T.2.2.2.2.2.1 (fF T.2.2.2.2.2.2 cur) (T.2.2.2.2.2.2 cur) S.2.1).1 - 1) + T.2.2.2.2.1 ((tRun W D y.2.2 T.2.2.2.2.1 T.2.2.2.2.2.1 (fF T.2.2.2.2.2.2 cur) (T.2.2.2.2.2.2 cur) S.2.1).1 - 1)) ∧ (if (tRun W D y.2.2 T.2.2.2.2.1 T.2.2.2.2.2.1 (fF T.2.2.2.2.2.2 cur) (T.2.2.2.2.2.2 cur) S.2.1).1 = (fF T.2.2.2.2.2.2 cur) then fr else T.2.2.2.1 ((tRun W D y.2.2 T.2.2.2.2.1 T.2.2.2.2.2.1 (fF T.2.2.2.2.2.2 cur) (T.2.2.2.2.2.2 cur) S.2.1).1 - 1) + T.2.2.2.2.1 ((tRun W D y.2.2 T.2.2.2.2.1 T.2.2.2.2.2.1 (fF T.2.2.2.2.2.2 cur) (T.2.2.2.2.2.2 cur) S.2.1).1 - 1)) ≤ to := by
              by_cases hra : (tRun W D y.2.2 T.2.2.2.2.1 T.2.2.2.2.2.1 (fF T.2.2.2.2.2.2 cur) (T.2.2.2.2.2.2 cur) S.2.1).1 = (fF T.2.2.2.2.2.2 cur)
              · rw [if_pos hra]; omega
              · rw [if_neg hra]
                have h := hF.1.sub (e := (tRun W D y.2.2 T.2.2.2.2.1 T.2.2.2.2.2.1 (fF T.2.2.2.2.2.2 cur) (T.2.2.2.2.2.2 cur) S.2.1).1) (by omega) hrn.1.2
                have := h.1.bd
                omega
            refine r_aload_n dX0_fillBehindTab_179 rfl ?_
            refine r_iload_n dX0_fillBehindTab_180 rfl ?_
            refine r_aload_n dX0_fillBehindTab_181 rfl ?_
            refine q_getI fl_X0_97 dX0_fillBehindTab_182 sf_34 ?_
            rw [hr5]
            refine q_callVW lk_X0_76 dX0_fillBehindTab_185 (c_flow I5 R hRO (hC.keptM hM5) hWr hH cur ((hM5 _ _ (by omega) (by omega) (by omega)).trans hcur) hc81 (by omega) hI5.1 (fF T.2.2.2.2.2.2 cur) (tRun W D y.2.2 T.2.2.2.2.1 T.2.2.2.2.2.1 (fF T.2.2.2.2.2.2 cur) (T.2.2.2.2.2.2 cur) S.2.1).1 (by omega) (by omega) hwk hi5 (by omega) (fun q => ⟨by have := (hF.1.2.2.1.1 (by omega)).1; omega, by have := hrn.2.2.1 q; omega⟩) (by rw [hF5]; omega)) (by decide) sf_34 rfl rfl (Nat.le_of_ble_eq_true rfl) (by decide) (fun I6 hI6 => ?_)
            have hM6 : LM I6 I := hI6.2.lm.trans hM5
            have hr6 : I6 34 9 = (tRun W D y.2.2 T.2.2.2.2.1 T.2.2.2.2.2.1 (fF T.2.2.2.2.2.2 cur) (T.2.2.2.2.2.2 cur) S.2.1).1 := (hI6.2 _ _ (by omega) (by omega) (by omega)).trans hr5
            have hi6 := Inv.fl (cur := cur) hH hwk ((tRun W D y.2.2 T.2.2.2.2.1 T.2.2.2.2.2.1 (fF T.2.2.2.2.2.2 cur) (T.2.2.2.2.2.2 cur) S.2.1).1 - (fF T.2.2.2.2.2.2 cur)).toNat (fF T.2.2.2.2.2.2 cur) S5 (k0 + 1) (by omega) (Int.le_refl _) hi5 (by omega) (fun q => ⟨by have := (hF.1.2.2.1.1 (by omega)).1; omega, fun q => by omega, fun _ => by have := hrn.2.2.1 (by omega); omega⟩)
            have hF6 : (sFl W H cur T.2.2.2.1 T.2.2.2.2.1 (fF T.2.2.2.2.2.2 cur) ((tRun W D y.2.2 T.2.2.2.2.1 T.2.2.2.2.2.1 (fF T.2.2.2.2.2.2 cur) (T.2.2.2.2.2.2 cur) S.2.1).1 - (fF T.2.2.2.2.2.2 cur)).toNat (fF T.2.2.2.2.2.2 cur) S5).2.2.2.2 cur 0 = S.1 := (sFl_F0 _ _ _).trans hF5
            refine r_aload_n dX0_fillBehindTab_188 rfl ?_
            refine q_getI fl_X0_97 dX0_fillBehindTab_189 sf_34 ?_
            rw [hr6]
            refine r_iload_n dX0_fillBehindTab_192 rfl ?_
            refine r_icmpge (tgt := 209) dX0_fillBehindTab_193 (by decide) (by omega) (by omega) (fun h193 => ?_) (fun h193 => ?_)
            · refine q_vretW dX0_fillBehindTab_209 rfl ?_
              first
                | (have e : (sTab W D H y.2.2 T.2.2.2.1 T.2.2.2.2.1 T.2.2.2.2.2.1 cur (fF T.2.2.2.2.2.2 cur) (T.2.2.2.2.2.2 cur) S) = sFl W H cur T.2.2.2.1 T.2.2.2.2.1 (tRun W D y.2.2 T.2.2.2.2.1 T.2.2.2.2.2.1 (fF T.2.2.2.2.2.2 cur) (T.2.2.2.2.2.2 cur) S.2.1).1 ((T.2.2.2.2.2.2 cur) - (tRun W D y.2.2 T.2.2.2.2.1 T.2.2.2.2.2.1 (fF T.2.2.2.2.2.2 cur) (T.2.2.2.2.2.2 cur) S.2.1).1).toNat (tRun W D y.2.2 T.2.2.2.2.1 T.2.2.2.2.2.1 (fF T.2.2.2.2.2.2 cur) (T.2.2.2.2.2.2 cur) S.2.1).1 (sLine H (sFl W H cur T.2.2.2.1 T.2.2.2.2.1 (fF T.2.2.2.2.2.2 cur) ((tRun W D y.2.2 T.2.2.2.2.1 T.2.2.2.2.2.1 (fF T.2.2.2.2.2.2 cur) (T.2.2.2.2.2.2 cur) S.2.1).1 - (fF T.2.2.2.2.2.2 cur)).toNat (fF T.2.2.2.2.2.2 cur) S5)) := by
                     rw [← hS5]
                     unfold sTab
                     rw [if_neg hno, if_pos (by omega)]
                   rw [e]
                   exact ⟨hI8.1, hI8.2.lm.trans hM7⟩)
                | (have e : (sTab W D H y.2.2 T.2.2.2.1 T.2.2.2.2.1 T.2.2.2.2.2.1 cur (fF T.2.2.2.2.2.2 cur) (T.2.2.2.2.2.2 cur) S) = sFl W H cur T.2.2.2.1 T.2.2.2.2.1 (fF T.2.2.2.2.2.2 cur) ((tRun W D y.2.2 T.2.2.2.2.1 T.2.2.2.2.2.1 (fF T.2.2.2.2.2.2 cur) (T.2.2.2.2.2.2 cur) S.2.1).1 - (fF T.2.2.2.2.2.2 cur)).toNat (fF T.2.2.2.2.2.2 cur) S5 := by
                     rw [← hS5]
                     unfold sTab
                     rw [if_neg hno, if_neg (by omega)]
                   rw [e]
                   exact ⟨hI6.1, hM6⟩)
            · refine r_aload_n dX0_fillBehindTab_196 rfl ?_
              have hra : (tRun W D y.2.2 T.2.2.2.2.1 T.2.2.2.2.2.1 (fF T.2.2.2.2.2.2 cur) (T.2.2.2.2.2.2 cur) S.2.1).1 ≠ (fF T.2.2.2.2.2.2 cur) := by omega
              rw [if_neg hra] at hi6 hE
              have hsep := (hF.1.2.2.2 ((tRun W D y.2.2 T.2.2.2.2.1 T.2.2.2.2.2.1 (fF T.2.2.2.2.2.2 cur) (T.2.2.2.2.2.2 cur) S.2.1).1 - 1) (by omega) (by omega)).2.2.1 (by omega)
              rw [show (tRun W D y.2.2 T.2.2.2.2.1 T.2.2.2.2.2.1 (fF T.2.2.2.2.2.2 cur) (T.2.2.2.2.2.2 cur) S.2.1).1 - 1 + 1 = (tRun W D y.2.2 T.2.2.2.2.1 T.2.2.2.2.2.1 (fF T.2.2.2.2.2.2 cur) (T.2.2.2.2.2.2 cur) S.2.1).1 by omega] at hsep
              have hwr := (hF.1.2.2.2 (tRun W D y.2.2 T.2.2.2.2.1 T.2.2.2.2.2.1 (fF T.2.2.2.2.2.2 cur) (T.2.2.2.2.2.2 cur) S.2.1).1 (by omega) (by omega)).1
              refine q_callVW lk_X0_100 dX0_fillBehindTab_197 (c_startLine I6 R hRO) (by decide) sf_34 rfl rfl (Nat.le_of_ble_eq_true rfl) (by decide) (fun I7 hI7 => ?_)
              have hH6 : I6 34 5 = H := (hM6 _ _ (by omega) (by omega) (by omega)).trans hC.2.2.1
              rw [hH6] at hI7
              have hL7 := hI6.1.line (H := H)
              rw [← hI7] at hL7
              have hK7 : LK I7 I6 := fun x j p q r => by rw [hI7, u2_n (by omega), u2_n (by omega)]
              have hM7 : LM I7 I := hK7.lm.trans hM6
              have hr7 : I7 34 9 = (tRun W D y.2.2 T.2.2.2.2.1 T.2.2.2.2.2.1 (fF T.2.2.2.2.2.2 cur) (T.2.2.2.2.2.2 cur) S.2.1).1 := (hK7 _ _ (by omega) (by omega) (by omega)).trans hr6
              have hi7 := (hi6.line (H := H) ⟨hH.1, by omega⟩)
              have hi6r := hi6.1
              refine r_aload_n dX0_fillBehindTab_200 rfl ?_
              refine r_aload_n dX0_fillBehindTab_201 rfl ?_
              refine q_getI fl_X0_97 dX0_fillBehindTab_202 sf_34 ?_
              rw [hr7]
              refine r_iload_n dX0_fillBehindTab_205 rfl ?_
              refine q_callVW lk_X0_76 dX0_fillBehindTab_206 (c_flow I7 R hRO (hC.keptM hM7) hWr hH cur ((hM7 _ _ (by omega) (by omega) (by omega)).trans hcur) hc81 (by omega) hL7 (tRun W D y.2.2 T.2.2.2.2.1 T.2.2.2.2.2.1 (fF T.2.2.2.2.2.2 cur) (T.2.2.2.2.2.2 cur) S.2.1).1 (T.2.2.2.2.2.2 cur) (by omega) hto (fun w w1 w2 => hF.1.2.2.2 w (by omega) w2) (hi7.le (Int.le_refl _) (by omega)) (by omega) (fun q => ⟨by omega, hH.2⟩) (by show 0 ≤ (sFl W H cur T.2.2.2.1 T.2.2.2.2.1 (fF T.2.2.2.2.2.2 cur) ((tRun W D y.2.2 T.2.2.2.2.1 T.2.2.2.2.2.1 (fF T.2.2.2.2.2.2 cur) (T.2.2.2.2.2.2 cur) S.2.1).1 - (fF T.2.2.2.2.2.2 cur)).toNat (fF T.2.2.2.2.2.2 cur) S5).2.2.2.2 cur 0 ∧ (sFl W H cur T.2.2.2.1 T.2.2.2.2.1 (fF T.2.2.2.2.2.2 cur) ((tRun W D y.2.2 T.2.2.2.2.1 T.2.2.2.2.2.1 (fF T.2.2.2.2.2.2 cur) (T.2.2.2.2.2.2 cur) S.2.1).1 - (fF T.2.2.2.2.2.2 cur)).toNat (fF T.2.2.2.2.2.2 cur) S5).2.2.2.2 cur 0 ≤ 80; rw [hF6]; omega)) (by decide) sf_34 rfl rfl (Nat.le_of_ble_eq_true rfl) (by decide) (fun I8 hI8 => ?_)
              refine q_vretW dX0_fillBehindTab_209 rfl ?_
              first
                | (have e : (sTab W D H y.2.2 T.2.2.2.1 T.2.2.2.2.1 T.2.2.2.2.2.1 cur (fF T.2.2.2.2.2.2 cur) (T.2.2.2.2.2.2 cur) S) = sFl W H cur T.2.2.2.1 T.2.2.2.2.1 (tRun W D y.2.2 T.2.2.2.2.1 T.2.2.2.2.2.1 (fF T.2.2.2.2.2.2 cur) (T.2.2.2.2.2.2 cur) S.2.1).1 ((T.2.2.2.2.2.2 cur) - (tRun W D y.2.2 T.2.2.2.2.1 T.2.2.2.2.2.1 (fF T.2.2.2.2.2.2 cur) (T.2.2.2.2.2.2 cur) S.2.1).1).toNat (tRun W D y.2.2 T.2.2.2.2.1 T.2.2.2.2.2.1 (fF T.2.2.2.2.2.2 cur) (T.2.2.2.2.2.2 cur) S.2.1).1 (sLine H (sFl W H cur T.2.2.2.1 T.2.2.2.2.1 (fF T.2.2.2.2.2.2 cur) ((tRun W D y.2.2 T.2.2.2.2.1 T.2.2.2.2.2.1 (fF T.2.2.2.2.2.2 cur) (T.2.2.2.2.2.2 cur) S.2.1).1 - (fF T.2.2.2.2.2.2 cur)).toNat (fF T.2.2.2.2.2.2 cur) S5)) := by
                     rw [← hS5]
                     unfold sTab
                     rw [if_neg hno, if_pos (by omega)]
                   rw [e]
                   exact ⟨hI8.1, hI8.2.lm.trans hM7⟩)
                | (have e : (sTab W D H y.2.2 T.2.2.2.1 T.2.2.2.2.1 T.2.2.2.2.2.1 cur (fF T.2.2.2.2.2.2 cur) (T.2.2.2.2.2.2 cur) S) = sFl W H cur T.2.2.2.1 T.2.2.2.2.1 (fF T.2.2.2.2.2.2 cur) ((tRun W D y.2.2 T.2.2.2.2.1 T.2.2.2.2.2.1 (fF T.2.2.2.2.2.2 cur) (T.2.2.2.2.2.2 cur) S.2.1).1 - (fF T.2.2.2.2.2.2 cur)).toNat (fF T.2.2.2.2.2.2 cur) S5 := by
                     rw [← hS5]
                     unfold sTab
                     rw [if_neg hno, if_neg (by omega)]
                   rw [e]
                   exact ⟨hI6.1, hM6⟩)
        · refine r_aload_n dX0_fillBehindTab_135 rfl ?_
          refine q_callVW lk_X0_100 dX0_fillBehindTab_136 (c_startLine I2 R hRO) (by decide) sf_34 rfl rfl (Nat.le_of_ble_eq_true rfl) (by decide) (fun I3 hI3 => ?_)
          have hH2 : I2 34 5 = H := hC2.2.2.1
          rw [hH2] at hI3
          have hL3 : LI I3 (sLine H S) cur := by rw [hI3]; exact hL2.line
          have hK3 : LK I3 I2 := fun x j p q r => by rw [hI3, u2_n (by omega), u2_n (by omega)]
          refine r_aload_n dX0_fillBehindTab_139 rfl ?_
          refine r_bipush dX0_fillBehindTab_140 (by decide) ?_
          refine r_bipush dX0_fillBehindTab_142 (by decide) ?_
          refine r_bipush dX0_fillBehindTab_144 (by decide) ?_
          refine q_callVW lk_X0_65 dX0_fillBehindTab_146 (c_startField I3 R hRO cur ((hK3 _ _ (by omega) (by omega) (by omega)).trans hcu2) hc81 _ _ _) (by decide) sf_34 rfl rfl (Nat.le_of_ble_eq_true rfl) (by decide) (fun I4 hI4 => ?_)
          have hL4 : LI I4 (sBeg cur (sLine H S) (-9) (-9) (-9)) (cur + 1) := by rw [hI4]; exact hL3.beg
          have hK4 : LK I4 I2 := fun x j p q r => by rw [hI4, bgI_n (by omega)]; exact hK3 x j p q r
          have hM4 : LM I4 I := hK4.lm.trans hM2
          have hi4 := (((hI.line (H := H) ⟨hH.1, by omega⟩).le (kr1 := k0 + 1) (kp1 := k0 + 1) (Int.le_refl _) (by omega)).beg cur (-9) (-9) (-9))
          refine r_aload_n dX0_fillBehindTab_149 rfl ?_
          refine r_iload_n dX0_fillBehindTab_150 rfl ?_
          refine r_iload_n dX0_fillBehindTab_151 rfl ?_
          refine q_callVW lk_X0_76 dX0_fillBehindTab_152 (c_flow I4 R hRO (hC.keptM hM4) hWr hH cur ((hM4 _ _ (by omega) (by omega) (by omega)).trans hcur) hc81 (by omega) hL4 (fF T.2.2.2.2.2.2 cur) (T.2.2.2.2.2.2 cur) (by omega) hto hF.1.2.2.2 hi4 (by omega) (fun q => ⟨by have := (hF.1.2.2.1.1 q).1; omega, hH.2⟩) (by rw [sBeg_F0]; show 0 ≤ S.1 + 1 ∧ S.1 + 1 ≤ 80; omega)) (by decide) sf_34 rfl rfl (Nat.le_of_ble_eq_true rfl) (by decide) (fun I9 hI9 => ?_)
          refine q_vretW dX0_fillBehindTab_155 rfl ?_
          have e : (sTab W D H y.2.2 T.2.2.2.1 T.2.2.2.2.1 T.2.2.2.2.2.1 cur (fF T.2.2.2.2.2.2 cur) (T.2.2.2.2.2.2 cur) S) = sFl W H cur T.2.2.2.1 T.2.2.2.2.1 (fF T.2.2.2.2.2.2 cur) ((T.2.2.2.2.2.2 cur) - (fF T.2.2.2.2.2.2 cur)).toNat (fF T.2.2.2.2.2.2 cur) (sBeg cur (sLine H S) (-9) (-9) (-9)) := by
            unfold sTab
            rw [if_pos (by omega)]
          rw [e]
          exact ⟨hI9.1, (hI9.2.lm.trans hM4)⟩
  have h88 : ∀ (z o Pv Kv : Int), z = bhG y.2.2 S.2.1 80 → ((o = 0 ∧ z = -9) ∨ (o = 1 ∧ z ≠ -9)) → Pv = (tPos y.2.2 D S.2.1) → Kv = (tKd y.2.2 S.2.1) → WW cX0_fillBehindTab RX0 8 none false 4 0 0 (PW R (fun I1 => LI I1 (sTab W D H y.2.2 T.2.2.2.1 T.2.2.2.2.1 T.2.2.2.2.2.1 cur (fF T.2.2.2.2.2.2 cur) (T.2.2.2.2.2.2 cur) S) (cur + 1) ∧ LM I1 I)) 0 0 88 [some (.inr (some 34)), some (.inr (some a)), some (.inl (fF T.2.2.2.2.2.2 cur)), some (.inl (T.2.2.2.2.2.2 cur)), some (.inl z), some (.inl o), some (.inl Pv), some (.inl Kv)] [] (290, ShF, I, R) := by
    intro z o Pv Kv hz ho hPv hKv
    refine r_aload_n dX0_fillBehindTab_88 rfl ?_
    refine r_iload_n dX0_fillBehindTab_89 rfl ?_
    refine r_iload_n dX0_fillBehindTab_90 rfl ?_
    refine r_aload_n dX0_fillBehindTab_91 rfl ?_
    refine q_getI fl_X0_41 dX0_fillBehindTab_92 sf_34 ?_
    rw [hW1]
    refine r_iload dX0_fillBehindTab_95 rfl ?_
    refine r_ifne (tgt := 105) dX0_fillBehindTab_97 (by decide) (by omega) (fun h97 => ?_) (fun h97 => ?_)
    · refine r_aload_n dX0_fillBehindTab_105 rfl ?_
      refine q_getI fl_X0_56 dX0_fillBehindTab_106 sf_34 ?_
      rw [hc1]
      refine r_isub dX0_fillBehindTab_109 ?_
      have hrm : W - S.2.1 = W - (if (tKd y.2.2 S.2.1) = 0 then (tPos y.2.2 D S.2.1) else S.2.1) := by
        rw [if_neg (by omega)]
      rw [hrm]
      refine q_callVW lk_X0_94 dX0_fillBehindTab_110 (c_measureRun I R hRO hTA (fF T.2.2.2.2.2.2 cur) (T.2.2.2.2.2.2 cur) _ (by omega) (by split <;> omega) hln hlen80) (by decide) sf_34 rfl rfl (Nat.le_of_ble_eq_true rfl) (by decide) (fun I2 hI2 => ?_)
      exact h113 z o Pv Kv hz ho hPv hKv I2 hI2.1 hI2.2
      
    · refine r_iload dX0_fillBehindTab_100 rfl ?_
      refine r_goto (tgt := 109) dX0_fillBehindTab_102 (by decide) ?_
      refine r_isub dX0_fillBehindTab_109 ?_
      have hrm : W - Pv = W - (if (tKd y.2.2 S.2.1) = 0 then (tPos y.2.2 D S.2.1) else S.2.1) := by
        rw [if_pos (by omega), hPv]
      rw [hrm]
      refine q_callVW lk_X0_94 dX0_fillBehindTab_110 (c_measureRun I R hRO hTA (fF T.2.2.2.2.2.2 cur) (T.2.2.2.2.2.2 cur) _ (by omega) (by split <;> omega) hln hlen80) (by decide) sf_34 rfl rfl (Nat.le_of_ble_eq_true rfl) (by decide) (fun I2 hI2 => ?_)
      exact h113 z o Pv Kv hz ho hPv hKv I2 hI2.1 hI2.2
      
  refine CC_of (own := RX0) (ini := false) (by decide +kernel) rfl (fun h => absurd h (by decide)) (Nat.le_of_ble_eq_true rfl) ?_
  show WW cX0_fillBehindTab RX0 8 none false 4 0 0 (PW R (fun I1 => LI I1 (sTab W D H y.2.2 T.2.2.2.1 T.2.2.2.2.1 T.2.2.2.2.2.1 cur (fF T.2.2.2.2.2.2 cur) (T.2.2.2.2.2.2 cur) S) (cur + 1) ∧ LM I1 I)) 0 0 0 [some (.inr (some 34)), some (.inr (some (a))), none, none, none, none, none, none] [] (290, ShF, I, R)
  refine r_aload_n dX0_fillBehindTab_0 rfl ?_
  refine q_getR fl_X0_12 dX0_fillBehindTab_1 sf_34 (ro_34_0 hRO) ?_
  refine r_aload_n dX0_fillBehindTab_4 rfl ?_
  refine q_getI fl_X0_62 dX0_fillBehindTab_5 sf_34 ?_
  rw [hcur]
  refine q_callVF lk_X0_69 dX0_fillBehindTab_8 (c_firstOf I R hRO cur (by omega)) (by decide) sf_35 rfl rfl (Nat.le_of_ble_eq_true rfl) (by decide) ?_
  rw [if_pos (show 1 ≤ (cur : Int) ∧ (cur : Int) ≤ 81 by omega), hTA.2.2.2 ((cur : Int) - 1) (by omega) (by omega), ← hA]
  refine r_istore_n dX0_fillBehindTab_11 (by decide) ?_
  dsimp only [lset]
  refine r_aload_n dX0_fillBehindTab_12 rfl ?_
  refine q_getR fl_X0_12 dX0_fillBehindTab_13 sf_34 (ro_34_0 hRO) ?_
  refine r_aload_n dX0_fillBehindTab_16 rfl ?_
  refine q_getI fl_X0_62 dX0_fillBehindTab_17 sf_34 ?_
  rw [hcur]
  refine q_callVF lk_X0_73 dX0_fillBehindTab_20 (c_endOf I R hRO cur (by omega)) (by decide) sf_35 rfl rfl (Nat.le_of_ble_eq_true rfl) (by decide) ?_
  rw [if_pos (show 0 ≤ (cur : Int) ∧ (cur : Int) < 81 by omega), hTA.2.2.2 (cur : Int) (by omega) (by omega)]
  refine r_istore_n dX0_fillBehindTab_23 (by decide) ?_
  dsimp only [lset]
  refine r_aload_n dX0_fillBehindTab_24 rfl ?_
  refine r_aload_n dX0_fillBehindTab_25 rfl ?_
  refine q_getI fl_X0_56 dX0_fillBehindTab_26 sf_34 ?_
  rw [hc1]
  refine q_callVY lk_X0_84 dX0_fillBehindTab_29 (c_tabBehind I R hs hsv S.2.1 (by omega)) (by decide) hs.1 rfl rfl (Nat.le_of_ble_eq_true rfl) (by decide) (fun z hzz => ?_)
  have hz : z = bhG y.2.2 S.2.1 80 := BehR.G hc0.1 (hzz.congr hgg)
  have hzr : -9 ≤ z ∧ z ≤ 80 := by
    rcases hBe with h | h
    · omega
    · have := h.1.1; have := h.1.2.1; omega
  refine r_istore dX0_fillBehindTab_32 (by decide) ?_
  dsimp only [lset]
  refine r_iload dX0_fillBehindTab_34 rfl ?_
  refine r_bipush dX0_fillBehindTab_36 (by decide) ?_
  refine r_icmpeq (tgt := 45) dX0_fillBehindTab_38 (by decide) (by omega) (by omega) (fun h38 => ?_) (fun h38 => ?_)
  · refine r_iconst dX0_fillBehindTab_45 ?_
    refine r_istore dX0_fillBehindTab_46 (by decide) ?_
    dsimp only [lset]
    refine r_iload dX0_fillBehindTab_48 rfl ?_
    refine r_ifeq (tgt := 58) dX0_fillBehindTab_50 (by decide) (by decide) (fun _ => ?_) (fun h => absurd h (by decide))
    refine r_aload_n dX0_fillBehindTab_58 rfl ?_
    refine q_getI fl_X0_56 dX0_fillBehindTab_59 sf_34 ?_
    rw [hc1]
    refine r_aload_n dX0_fillBehindTab_62 rfl ?_
    refine q_getI fl_X0_44 dX0_fillBehindTab_63 sf_34 ?_
    rw [hD1]
    refine q_callSF lk_X0_87 dX0_fillBehindTab_66 (c_multipleBehind I R S.2.1 D (by omega) (by omega)) (by decide) rfl rfl (Nat.le_of_ble_eq_true rfl) (by decide) ?_
    refine r_istore dX0_fillBehindTab_69 (by decide) ?_
    dsimp only [lset]
    refine r_iload dX0_fillBehindTab_71 rfl ?_
    refine r_ifeq (tgt := 85) dX0_fillBehindTab_73 (by decide) (by decide) (fun _ => ?_) (fun h => absurd h (by decide))
    refine r_iconst dX0_fillBehindTab_85 ?_
    refine r_istore dX0_fillBehindTab_86 (by decide) ?_
    dsimp only [lset]
    first
      | exact h88 z 1 _ _ hz (Or.inr ⟨rfl, by omega⟩) (by rw [hz]; exact (if_neg (by omega)).symm) (by rw [hz]; exact (if_neg (by omega)).symm)
      | exact h88 z 0 _ _ hz (Or.inl ⟨rfl, by omega⟩) ((if_pos (by omega) : (tPos y.2.2 D S.2.1) = _).symm) ((if_pos (by omega) : (tKd y.2.2 S.2.1) = _).symm)
  · refine r_iconst dX0_fillBehindTab_41 ?_
    refine r_goto (tgt := 46) dX0_fillBehindTab_42 (by decide) ?_
    refine r_istore dX0_fillBehindTab_46 (by decide) ?_
    dsimp only [lset]
    refine r_iload dX0_fillBehindTab_48 rfl ?_
    refine r_ifeq (tgt := 58) dX0_fillBehindTab_50 (by decide) (by decide) (fun h => absurd h (by decide)) (fun _ => ?_)
    refine r_iload dX0_fillBehindTab_53 rfl ?_
    refine r_goto (tgt := 69) dX0_fillBehindTab_55 (by decide) ?_
    refine r_istore dX0_fillBehindTab_69 (by decide) ?_
    dsimp only [lset]
    refine r_iload dX0_fillBehindTab_71 rfl ?_
    refine r_ifeq (tgt := 85) dX0_fillBehindTab_73 (by decide) (by decide) (fun h => absurd h (by decide)) (fun _ => ?_)
    refine r_aload_n dX0_fillBehindTab_76 rfl ?_
    refine r_iload dX0_fillBehindTab_77 rfl ?_
    refine q_callVF lk_X0_91 dX0_fillBehindTab_79 (c_kindAt I R hs hsv z (by omega)) (by decide) hs.1 rfl rfl (Nat.le_of_ble_eq_true rfl) (by decide) ?_
    have hzt : TabF y.2.2 z := by
      rcases hBe with h | h
      · omega
      · rw [hz]; exact h.1
    rw [if_pos ⟨hzt.1, hzt.2.1, by rw [hgg z hzt.1 hzt.2.1]; exact hzt.2.2.1⟩, hgg z hzt.1 hzt.2.1]
    refine r_goto (tgt := 86) dX0_fillBehindTab_82 (by decide) ?_
    refine r_istore dX0_fillBehindTab_86 (by decide) ?_
    dsimp only [lset]
    first
      | exact h88 z 1 _ _ hz (Or.inr ⟨rfl, by omega⟩) (by rw [hz]; exact (if_neg (by omega)).symm) (by rw [hz]; exact (if_neg (by omega)).symm)
      | exact h88 z 0 _ _ hz (Or.inl ⟨rfl, by omega⟩) ((if_pos (by omega) : (tPos y.2.2 D S.2.1) = _).symm) ((if_pos (by omega) : (tKd y.2.2 S.2.1) = _).symm)
