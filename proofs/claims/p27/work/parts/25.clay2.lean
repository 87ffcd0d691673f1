/-! the lines: the class's, on -/
set_option maxHeartbeats 4000000 in
set_option maxRecDepth 100000 in
theorem c_flow (I : Mem) (R : RMem) (hRO : RefOk R) {W D H : Int} {T : TW} (hC : LC I W D H T) (hWr : 20 ≤ W ∧ W ≤ 80) (hH : 0 ≤ H ∧ H < W) (cur : Nat) (hcur : I 34 8 = cur) (hc81 : cur < 81) {S : LSt} {k : Int} (hk : (cur : Int) < k ∧ k ≤ 81) (hL : LI I S k) (a b : Int) (ha : 0 ≤ a ∧ a ≤ b ∧ b ≤ T.2.1 ∧ T.2.1 ≤ 80) {ch : Int → Int} {to : Int} (hto : to ≤ 80) (hWk : ∀ w : Int, a ≤ w → w < b → Wk T.2.2.2.1 T.2.2.2.2.1 ch to b w) {k0 : Int} (hI : Inv W S k0 k0) (hk0 : k0 ≤ to) (hst : a < b → k0 ≤ T.2.2.2.1 a ∧ S.2.1 < W) (hF0 : 0 ≤ S.2.2.2.2 cur 0 ∧ S.2.2.2.2 cur 0 ≤ 80) : CC 2 0 0 yX0_flow cX0_flow 4 none [.inr (some 34), .inl (a), .inl (b)] (290, ShF, I, R) (PW R (fun I1 => LI I1 (sFl W H cur T.2.2.2.1 T.2.2.2.2.1 a (b - a).toNat a S) k ∧ LK I1 I)) := by
  have hloop : ∀ (n : Nat) (w : Int) (S1 : LSt) (k1 : Int) (I1 : Mem), b < w + n → (a ≤ w ∧ w ≤ b) → LI I1 S1 k → LK I1 I → Inv W S1 k1 k1 → k1 ≤ to → (w < b → k1 ≤ T.2.2.2.1 w ∧ (a < w → k1 < T.2.2.2.1 w) ∧ (w = a → S1.2.1 < W)) → (sFl W H cur T.2.2.2.1 T.2.2.2.2.1 a (b - a).toNat a S) = sFl W H cur T.2.2.2.1 T.2.2.2.2.1 a (b - w).toNat w S1 → S1.2.2.2.2 cur 0 = S.2.2.2.2 cur 0 → WW cX0_flow RX0 4 none false 2 0 0 (PW R (fun I1 => LI I1 (sFl W H cur T.2.2.2.1 T.2.2.2.2.1 a (b - a).toNat a S) k ∧ LK I1 I)) 0 0 2 [some (.inr (some 34)), some (.inl (a)), some (.inl (b)), some (.inl (w))] [] (290, ShF, I1, R) := by
    intro n
    induction n with
    | zero => intros; exfalso; omega
    | succ n ih =>
      intro w S1 k1 I1 g1 g2 g3 g4 g5 g6 g7 g8 g9
      refine r_iload_n dX0_flow_2 rfl ?_
      refine r_iload_n dX0_flow_3 rfl ?_
      refine r_icmpge (tgt := 62) dX0_flow_4 (by decide) (by omega) (by omega) (fun h4 => ?_) (fun h4 => ?_)
      · refine q_vretW dX0_flow_62 rfl ?_
        have hz : (b - w).toNat = 0 := by omega
        rw [hz] at g8
        have e : sFl W H cur T.2.2.2.1 T.2.2.2.2.1 a 0 w S1 = S1 := rfl
        rw [e] at g8
        rw [g8]
        exact ⟨g3, g4⟩
      · have hw := hWk w (by omega) (by omega)
        have hw1 := hw.1
        have hkw := g7 (by omega)
        have hC1 := hC.kept g4
        have hTA := hC1.2.2.2
        have hww := hTA.2.2.1 w (by omega) (by omega)
        have hcu1 : I1 34 8 = cur := (g4 _ _ (by omega) (by omega) (by omega)).trans hcur
        have hW1 : I1 34 3 = W := hC1.1
        have hc1 : I1 34 7 = S1.2.1 := g3.2.1
        have hc0 := g5.2.1
        have hkr := g5.1
        have hkp := g5.2.2.1
        have hstep : sFl W H cur T.2.2.2.1 T.2.2.2.2.1 a (b - w).toNat w S1 = sFl W H cur T.2.2.2.1 T.2.2.2.2.1 a (b - (w + 1)).toNat (w + 1) (sPl W H cur (T.2.2.2.1 w + T.2.2.2.2.1 w) (T.2.2.2.2.1 w).toNat (if a < w then sGap W H (T.2.2.2.2.1 w) S1 else S1) (T.2.2.2.2.1 w)) := by
          rw [show (b - w).toNat = (b - (w + 1)).toNat + 1 by omega]
          rfl
        refine r_iload_n dX0_flow_7 rfl ?_
        refine r_iload_n dX0_flow_8 rfl ?_
        refine r_icmple (tgt := 51) dX0_flow_9 (by decide) (by omega) (by omega) (fun h9 => ?_) (fun h9 => ?_)
        · have hC2 := hC1
          have hcu2 := hcu1
          have hL2 := g3
          have hK2 := g4
          have hif : (if a < w then sGap W H (T.2.2.2.2.1 w) S1 else S1) = S1 := if_neg (by omega)
          have hI2 : Inv W S1 (T.2.2.2.1 w) (T.2.2.2.1 w) := g5.le (by omega) (by omega)
          have hcW2 := hkw.2.2 (by omega)
          have hF2 : 0 ≤ S1.2.2.2.2 cur 0 ∧ S1.2.2.2.2 cur 0 ≤ 80 := by rw [g9]; exact hF0
          have hS2F := g9
          refine r_aload_n dX0_flow_51 rfl ?_
          refine r_iload_n dX0_flow_52 rfl ?_
          refine q_callVW lk_X0_128 dX0_flow_53 (c_place _ R hRO hC2 hWr hH cur hcu2 hc81 hk hL2 w (by omega) hI2 hcW2 (by omega) (by omega) hF2) (by decide) sf_34 rfl rfl (Nat.le_of_ble_eq_true rfl) (by decide) (fun I9 hI9 => ?_)
          refine r_iinc dX0_flow_56 rfl (by decide) ?_
          dsimp only [lset]
          refine r_goto (tgt := 2) dX0_flow_59 (by decide) ?_
          refine ih (w + 1) _ (T.2.2.2.1 w + T.2.2.2.2.1 w) I9 (by omega) (by omega) hI9.1 (hI9.2.trans hK2) ?_ (by omega) (fun q => ⟨by have := hw.2.2.1 q; omega, fun _ => hw.2.2.1 q, fun q => by omega⟩) ?_ ?_
          · exact (Inv.pl (cur := cur) (e := T.2.2.2.1 w + T.2.2.2.2.1 w) hH _ _ _ _ _ hI2 hcW2 hw1.1 (by omega)).le (by omega) (by omega)
          · rw [g8, hstep, hif]
          · rw [sPl_F0, hS2F]
        · refine r_aload_n dX0_flow_12 rfl ?_
          refine q_getI fl_X0_56 dX0_flow_13 sf_34 ?_
          rw [hc1]
          refine r_iconst dX0_flow_16 ?_
          refine r_iadd dX0_flow_17 ?_
          refine r_aload_n dX0_flow_18 rfl ?_
          refine q_getR fl_X0_12 dX0_flow_19 sf_34 (ro_34_0 hRO) ?_
          refine r_iload_n dX0_flow_22 rfl ?_
          refine q_callVF lk_X0_115 dX0_flow_23 (c_lengthOf I1 R hRO w (by omega)) (by decide) sf_35 rfl rfl (Nat.le_of_ble_eq_true rfl) (by decide) ?_
          rw [if_pos (show 0 ≤ w ∧ w < 80 by omega), hww.2.1]
          refine r_iadd dX0_flow_26 ?_
          refine r_aload_n dX0_flow_27 rfl ?_
          refine q_getI fl_X0_41 dX0_flow_28 sf_34 ?_
          rw [hW1]
          refine r_icmpgt (tgt := 47) dX0_flow_31 (by decide) (by omega) (by omega) (fun h31 => ?_) (fun h31 => ?_)
          · refine r_aload_n dX0_flow_47 rfl ?_
            refine q_callVW lk_X0_100 dX0_flow_48 (c_startLine I1 R hRO) (by decide) sf_34 rfl rfl (Nat.le_of_ble_eq_true rfl) (by decide) (fun I5 hI5 => ?_)
            have hgap : sGap W H (T.2.2.2.2.1 w) S1 = sLine H S1 := if_neg (by omega)
            have hif : (if a < w then sGap W H (T.2.2.2.2.1 w) S1 else S1) = sLine H S1 := (if_pos (by omega)).trans hgap
            have hH1 : I1 34 5 = H := hC1.2.2.1
            rw [hH1] at hI5
            have hK2 : LK I5 I := fun x j p q r => by rw [hI5, u2_n (by omega), u2_n (by omega)]; exact g4 x j p q r
            have hL2 : LI I5 (sLine H S1) k := by rw [hI5]; exact g3.line
            have hC2 := hC.kept hK2
            have hcu2 := (hK2 34 8 (by omega) (by omega) (by omega)).trans hcur
            have hgp := g5.gap (l := T.2.2.2.2.1 w) hH hw1.1
            rw [hgap] at hgp
            have hkw2 := hkw.2.1 (by omega)
            have hI2 : Inv W (sLine H S1) (T.2.2.2.1 w) (T.2.2.2.1 w) := hgp.1.le (by omega) (by omega)
            have hcW2 := hgp.2
            have hF2 : 0 ≤ (sLine H S1).2.2.2.2 cur 0 ∧ (sLine H S1).2.2.2.2 cur 0 ≤ 80 := by show 0 ≤ S1.2.2.2.2 cur 0 ∧ S1.2.2.2.2 cur 0 ≤ 80; rw [g9]; exact hF0
            have hS2F : (sLine H S1).2.2.2.2 cur 0 = S.2.2.2.2 cur 0 := g9
            refine r_aload_n dX0_flow_51 rfl ?_
            refine r_iload_n dX0_flow_52 rfl ?_
            refine q_callVW lk_X0_128 dX0_flow_53 (c_place _ R hRO hC2 hWr hH cur hcu2 hc81 hk hL2 w (by omega) hI2 hcW2 (by omega) (by omega) hF2) (by decide) sf_34 rfl rfl (Nat.le_of_ble_eq_true rfl) (by decide) (fun I9 hI9 => ?_)
            refine r_iinc dX0_flow_56 rfl (by decide) ?_
            dsimp only [lset]
            refine r_goto (tgt := 2) dX0_flow_59 (by decide) ?_
            refine ih (w + 1) _ (T.2.2.2.1 w + T.2.2.2.2.1 w) I9 (by omega) (by omega) hI9.1 (hI9.2.trans hK2) ?_ (by omega) (fun q => ⟨by have := hw.2.2.1 q; omega, fun _ => hw.2.2.1 q, fun q => by omega⟩) ?_ ?_
            · exact (Inv.pl (cur := cur) (e := T.2.2.2.1 w + T.2.2.2.2.1 w) hH _ _ _ _ _ hI2 hcW2 hw1.1 (by omega)).le (by omega) (by omega)
            · rw [g8, hstep, hif]
            · rw [sPl_F0, hS2F]
          · refine r_aload_n dX0_flow_34 rfl ?_
            refine r_dup dX0_flow_35 ?_
            refine q_getI fl_X0_56 dX0_flow_36 sf_34 ?_
            rw [hc1]
            refine r_iconst dX0_flow_39 ?_
            refine r_iadd dX0_flow_40 ?_
            refine q_putI fl_X0_56 dX0_flow_41 sf_34 ?_
            refine r_goto (tgt := 51) dX0_flow_44 (by decide) ?_
            have hgap : sGap W H (T.2.2.2.2.1 w) S1 = sAt S1 (S1.2.1 + 1) := if_pos (by omega)
            have hif : (if a < w then sGap W H (T.2.2.2.2.1 w) S1 else S1) = sAt S1 (S1.2.1 + 1) := (if_pos (by omega)).trans hgap
            have hK2 : LK (u2 I1 34 7 (S1.2.1 + 1)) I := fun x j p q r => by rw [u2_n (by omega)]; exact g4 x j p q r
            have hL2 : LI (u2 I1 34 7 (S1.2.1 + 1)) (sAt S1 (S1.2.1 + 1)) k := g3.at
            have hC2 := hC.kept hK2
            have hcu2 := (hK2 34 8 (by omega) (by omega) (by omega)).trans hcur
            have hgp := g5.gap (l := T.2.2.2.2.1 w) hH hw1.1
            rw [hgap] at hgp
            have hkw2 := hkw.2.1 (by omega)
            have hI2 : Inv W (sAt S1 (S1.2.1 + 1)) (T.2.2.2.1 w) (T.2.2.2.1 w) := hgp.1.le (by omega) (by omega)
            have hcW2 := hgp.2
            have hF2 : 0 ≤ (sAt S1 (S1.2.1 + 1)).2.2.2.2 cur 0 ∧ (sAt S1 (S1.2.1 + 1)).2.2.2.2 cur 0 ≤ 80 := by show 0 ≤ S1.2.2.2.2 cur 0 ∧ S1.2.2.2.2 cur 0 ≤ 80; rw [g9]; exact hF0
            have hS2F : (sAt S1 (S1.2.1 + 1)).2.2.2.2 cur 0 = S.2.2.2.2 cur 0 := g9
            refine r_aload_n dX0_flow_51 rfl ?_
            refine r_iload_n dX0_flow_52 rfl ?_
            refine q_callVW lk_X0_128 dX0_flow_53 (c_place _ R hRO hC2 hWr hH cur hcu2 hc81 hk hL2 w (by omega) hI2 hcW2 (by omega) (by omega) hF2) (by decide) sf_34 rfl rfl (Nat.le_of_ble_eq_true rfl) (by decide) (fun I9 hI9 => ?_)
            refine r_iinc dX0_flow_56 rfl (by decide) ?_
            dsimp only [lset]
            refine r_goto (tgt := 2) dX0_flow_59 (by decide) ?_
            refine ih (w + 1) _ (T.2.2.2.1 w + T.2.2.2.2.1 w) I9 (by omega) (by omega) hI9.1 (hI9.2.trans hK2) ?_ (by omega) (fun q => ⟨by have := hw.2.2.1 q; omega, fun _ => hw.2.2.1 q, fun q => by omega⟩) ?_ ?_
            · exact (Inv.pl (cur := cur) (e := T.2.2.2.1 w + T.2.2.2.2.1 w) hH _ _ _ _ _ hI2 hcW2 hw1.1 (by omega)).le (by omega) (by omega)
            · rw [g8, hstep, hif]
            · rw [sPl_F0, hS2F]
  refine CC_of (own := RX0) (ini := false) (by decide +kernel) rfl (fun h => absurd h (by decide)) (Nat.le_of_ble_eq_true rfl) ?_
  show WW cX0_flow RX0 4 none false 2 0 0 (PW R (fun I1 => LI I1 (sFl W H cur T.2.2.2.1 T.2.2.2.2.1 a (b - a).toNat a S) k ∧ LK I1 I)) 0 0 0 [some (.inr (some 34)), some (.inl (a)), some (.inl (b)), none] [] (290, ShF, I, R)
  refine r_iload_n dX0_flow_0 rfl ?_
  refine r_istore_n dX0_flow_1 (by decide) ?_
  dsimp only [lset]
  exact hloop ((b - a).toNat + 1) a S k0 I (by omega) (by omega) hL (LK.rfl I) hI hk0 (fun q => ⟨(hst q).1, fun q => by omega, fun _ => (hst q).2⟩) rfl rfl
set_option maxHeartbeats 4000000 in
set_option maxRecDepth 100000 in
theorem c_measureRun (I : Mem) (R : RMem) (hRO : RefOk R) {T : TW} (hT : TA T I) (a b room : Int) (ha : 0 ≤ a ∧ a ≤ b ∧ b ≤ T.2.1 ∧ T.2.1 ≤ 80) (hroom : -1000 ≤ room ∧ room ≤ 1000) (hln : ∀ w : Int, a ≤ w → w < b → 1 ≤ T.2.2.2.2.1 w ∧ -1 ≤ T.2.2.2.2.2.1 w ∧ T.2.2.2.2.2.1 w ≤ T.2.2.2.2.1 w) (hlb : ∀ w : Int, a ≤ w → w < b → T.2.2.2.2.1 w ≤ 80) : CC 1 0 0 yX0_measureRun cX0_measureRun 6 none [.inr (some 34), .inl (a), .inl (b), .inl (room)] (290, ShF, I, R) (PW R (fun I1 => (I1 34 9 = (sRun T.2.2.2.2.1 T.2.2.2.2.2.1 room a b).1 ∧ I1 34 10 = (sRun T.2.2.2.2.1 T.2.2.2.2.2.1 room a b).2.1 ∧ I1 34 11 = (sRun T.2.2.2.2.1 T.2.2.2.2.2.1 room a b).2.2) ∧ (∀ (x : Nat) (j : Int), ¬ (x = 34 ∧ 9 ≤ j ∧ j ≤ 11) → I1 x j = I x j))) := by
  have hloop : ∀ (n : Nat) (w : Int) (t : RV) (u5 : Option MV) (I1 : Mem), b < w + n → (a ≤ w ∧ w ≤ b) → (I1 34 9 = t.1 ∧ I1 34 10 = t.2.1 ∧ I1 34 11 = t.2.2) → (∀ (x : Nat) (j : Int), ¬ (x = 34 ∧ 9 ≤ j ∧ j ≤ 11) → I1 x j = I x j) → (sRn T.2.2.2.2.1 T.2.2.2.2.2.1 room a (b - a).toNat a (a, 0, -1)) = sRn T.2.2.2.2.1 T.2.2.2.2.2.1 room a (b - w).toNat w t → (0 ≤ t.2.1 ∧ t.2.1 ≤ 81 * (w - a)) → (-1 ≤ t.2.2 ∧ t.2.2 ≤ 10000) → WW cX0_measureRun RX0 6 none false 1 0 0 (PW R (fun I1 => (I1 34 9 = (sRun T.2.2.2.2.1 T.2.2.2.2.2.1 room a b).1 ∧ I1 34 10 = (sRun T.2.2.2.2.1 T.2.2.2.2.2.1 room a b).2.1 ∧ I1 34 11 = (sRun T.2.2.2.2.1 T.2.2.2.2.2.1 room a b).2.2) ∧ (∀ (x : Nat) (j : Int), ¬ (x = 34 ∧ 9 ≤ j ∧ j ≤ 11) → I1 x j = I x j))) 0 0 18 [some (.inr (some 34)), some (.inl (a)), some (.inl (b)), some (.inl (room)), some (.inl (w)), u5] [] (290, ShF, I1, R) := by
    intro n
    induction n with
    | zero => intros; exfalso; omega
    | succ n ih =>
      intro w t u5 I1 g1 g2 g3 g4 g5 g6 g7
      refine r_iload dX0_measureRun_18 rfl ?_
      refine r_iload_n dX0_measureRun_20 rfl ?_
      refine r_icmpge (tgt := 128) dX0_measureRun_21 (by decide) (by omega) (by omega) (fun h21 => ?_) (fun h21 => ?_)
      · have hend : (sRn T.2.2.2.2.1 T.2.2.2.2.2.1 room a (b - a).toNat a (a, 0, -1)) = t := by
          rw [g5, show (b - w).toNat = 0 by omega]
          rfl
        refine r_aload_n dX0_measureRun_128 rfl ?_
        refine q_getI fl_X0_112 dX0_measureRun_129 sf_34 ?_
        rw [g3.2.2]
        refine r_iconst dX0_measureRun_132 ?_
        refine r_icmpne (tgt := 144) dX0_measureRun_133 (by decide) (by omega) (by omega) (fun h133 => ?_) (fun h133 => ?_)
        · refine q_vretW dX0_measureRun_144 rfl ?_
          have er : (sRun T.2.2.2.2.1 T.2.2.2.2.2.1 room a b) = (t.1, t.2.1, if t.2.2 = -1 then t.2.1 else t.2.2) := by
            unfold sRun
            rw [hend]
          rw [er]
          first
            | (rw [if_pos (by omega)]
               exact ⟨⟨by rw [u2_n (Or.inr (by decide))]; exact g3.1, by rw [u2_n (Or.inr (by decide))]; exact g3.2.1, u2_s⟩, fun x j h => by rw [u2_n (by omega)]; exact g4 x j h⟩)
            | (rw [if_neg (by omega)]
               exact ⟨g3, g4⟩)
        · refine r_aload_n dX0_measureRun_136 rfl ?_
          refine r_aload_n dX0_measureRun_137 rfl ?_
          refine q_getI fl_X0_109 dX0_measureRun_138 sf_34 ?_
          rw [g3.2.1]
          refine q_putI fl_X0_112 dX0_measureRun_141 sf_34 ?_
          refine q_vretW dX0_measureRun_144 rfl ?_
          have er : (sRun T.2.2.2.2.1 T.2.2.2.2.2.1 room a b) = (t.1, t.2.1, if t.2.2 = -1 then t.2.1 else t.2.2) := by
            unfold sRun
            rw [hend]
          rw [er]
          first
            | (rw [if_pos (by omega)]
               exact ⟨⟨by rw [u2_n (Or.inr (by decide))]; exact g3.1, by rw [u2_n (Or.inr (by decide))]; exact g3.2.1, u2_s⟩, fun x j h => by rw [u2_n (by omega)]; exact g4 x j h⟩)
            | (rw [if_neg (by omega)]
               exact ⟨g3, g4⟩)
      · have hwl := hln w (by omega) (by omega)
        have hwb := hlb w (by omega) (by omega)
        have hTA : TA T I1 := hT.kept fun x j p q => g4 x j (by omega)
        have hww := hTA.2.2.1 w (by omega) (by omega)
        have hstep : sRn T.2.2.2.2.1 T.2.2.2.2.2.1 room a (b - w).toNat w t = if room < (if w = a then 0 else t.2.1 + 1) + T.2.2.2.2.1 w then t else sRn T.2.2.2.2.1 T.2.2.2.2.2.1 room a (b - (w + 1)).toNat (w + 1) (w + 1, (if w = a then 0 else t.2.1 + 1) + T.2.2.2.2.1 w, if t.2.2 = -1 ∧ T.2.2.2.2.2.1 w ≠ -1 then (if w = a then 0 else t.2.1 + 1) + T.2.2.2.2.2.1 w else t.2.2) := by
          rw [show (b - w).toNat = (b - (w + 1)).toNat + 1 by omega]
          rfl
        refine r_iload dX0_measureRun_24 rfl ?_
        refine r_iload_n dX0_measureRun_26 rfl ?_
        refine r_icmpne (tgt := 34) dX0_measureRun_27 (by decide) (by omega) (by omega) (fun h27 => ?_) (fun h27 => ?_)
        · have hs0 : (if w = a then 0 else t.2.1 + 1) = t.2.1 + 1 := if_neg (by omega)
          rw [hs0] at hstep
          refine r_aload_n dX0_measureRun_34 rfl ?_
          refine q_getI fl_X0_109 dX0_measureRun_35 sf_34 ?_
          rw [g3.2.1]
          refine r_iconst dX0_measureRun_38 ?_
          refine r_iadd dX0_measureRun_39 ?_
          refine r_istore dX0_measureRun_40 (by decide) ?_
          dsimp only [lset]
          refine r_iload dX0_measureRun_42 rfl ?_
          refine r_aload_n dX0_measureRun_44 rfl ?_
          refine q_getR fl_X0_12 dX0_measureRun_45 sf_34 (ro_34_0 hRO) ?_
          refine r_iload dX0_measureRun_48 rfl ?_
          refine q_callVF lk_X0_115 dX0_measureRun_50 (c_lengthOf I1 R hRO w (by omega)) (by decide) sf_35 rfl rfl (Nat.le_of_ble_eq_true rfl) (by decide) ?_
          rw [if_pos (show 0 ≤ w ∧ w < 80 by omega), hww.2.1]
          refine r_iadd dX0_measureRun_53 ?_
          refine r_iload_n dX0_measureRun_54 rfl ?_
          refine r_icmple (tgt := 61) dX0_measureRun_55 (by decide) (by omega) (by omega) (fun h55 => ?_) (fun h55 => ?_)
          · rw [if_neg (by omega)] at hstep
            refine r_aload_n dX0_measureRun_61 rfl ?_
            refine q_getI fl_X0_112 dX0_measureRun_62 sf_34 ?_
            rw [g3.2.2]
            refine r_iconst dX0_measureRun_65 ?_
            refine r_icmpne (tgt := 98) dX0_measureRun_66 (by decide) (by omega) (by omega) (fun h66 => ?_) (fun h66 => ?_)
            · refine r_aload_n dX0_measureRun_98 rfl ?_
              refine r_iload dX0_measureRun_99 rfl ?_
              refine r_aload_n dX0_measureRun_101 rfl ?_
              refine q_getR fl_X0_12 dX0_measureRun_102 sf_34 (ro_34_0 hRO) ?_
              refine r_iload dX0_measureRun_105 rfl ?_
              refine q_callVF lk_X0_115 dX0_measureRun_107 (c_lengthOf _ R hRO w (by omega)) (by decide) sf_35 rfl rfl (Nat.le_of_ble_eq_true rfl) (by decide) ?_
              rw [if_pos (show 0 ≤ w ∧ w < 80 by omega)]
              try rw [u2_n (Or.inl (by decide))]
              rw [hww.2.1]
              refine r_iadd dX0_measureRun_110 ?_
              refine q_putI fl_X0_109 dX0_measureRun_111 sf_34 ?_
              refine r_aload_n dX0_measureRun_114 rfl ?_
              refine r_iload dX0_measureRun_115 rfl ?_
              refine r_iconst dX0_measureRun_117 ?_
              refine r_iadd dX0_measureRun_118 ?_
              refine q_putI fl_X0_97 dX0_measureRun_119 sf_34 ?_
              refine r_iinc dX0_measureRun_122 rfl (by decide) ?_
              dsimp only [lset]
              refine r_goto (tgt := 18) dX0_measureRun_125 (by decide) ?_
              first
                | (rw [if_pos (by omega)] at hstep
                   refine ih (w + 1) _ _ _ (by omega) (by omega) ?_ (fun x j h => by rw [u2_n (by omega), u2_n (by omega), u2_n (by omega)]; exact g4 x j h) (g5.trans hstep) ?_ ?_
                   · exact ⟨u2_s, by rw [u2_n (Or.inr (by decide)), u2_s], by rw [u2_n (Or.inr (by decide)), u2_n (Or.inr (by decide)), u2_s]⟩
                   · dsimp only; omega
                   · dsimp only; omega)
                | (rw [if_neg (by omega)] at hstep
                   refine ih (w + 1) _ _ _ (by omega) (by omega) ?_ (fun x j h => by rw [u2_n (by omega), u2_n (by omega)]; exact g4 x j h) (g5.trans hstep) ?_ ?_
                   · exact ⟨u2_s, by rw [u2_n (Or.inr (by decide)), u2_s], by rw [u2_n (Or.inr (by decide)), u2_n (Or.inr (by decide))]; exact g3.2.2⟩
                   · dsimp only; omega
                   · dsimp only; omega)
            · refine r_aload_n dX0_measureRun_69 rfl ?_
              refine q_getR fl_X0_12 dX0_measureRun_70 sf_34 (ro_34_0 hRO) ?_
              refine r_iload dX0_measureRun_73 rfl ?_
              refine q_callVF lk_X0_118 dX0_measureRun_75 (c_pointOf I1 R hRO w (by omega)) (by decide) sf_35 rfl rfl (Nat.le_of_ble_eq_true rfl) (by decide) ?_
              rw [if_pos (show 0 ≤ w ∧ w < 80 by omega), hww.2.2]
              refine r_iconst dX0_measureRun_78 ?_
              refine r_icmpeq (tgt := 98) dX0_measureRun_79 (by decide) (by omega) (by omega) (fun h79 => ?_) (fun h79 => ?_)
              · refine r_aload_n dX0_measureRun_98 rfl ?_
                refine r_iload dX0_measureRun_99 rfl ?_
                refine r_aload_n dX0_measureRun_101 rfl ?_
                refine q_getR fl_X0_12 dX0_measureRun_102 sf_34 (ro_34_0 hRO) ?_
                refine r_iload dX0_measureRun_105 rfl ?_
                refine q_callVF lk_X0_115 dX0_measureRun_107 (c_lengthOf _ R hRO w (by omega)) (by decide) sf_35 rfl rfl (Nat.le_of_ble_eq_true rfl) (by decide) ?_
                rw [if_pos (show 0 ≤ w ∧ w < 80 by omega)]
                try rw [u2_n (Or.inl (by decide))]
                rw [hww.2.1]
                refine r_iadd dX0_measureRun_110 ?_
                refine q_putI fl_X0_109 dX0_measureRun_111 sf_34 ?_
                refine r_aload_n dX0_measureRun_114 rfl ?_
                refine r_iload dX0_measureRun_115 rfl ?_
                refine r_iconst dX0_measureRun_117 ?_
                refine r_iadd dX0_measureRun_118 ?_
                refine q_putI fl_X0_97 dX0_measureRun_119 sf_34 ?_
                refine r_iinc dX0_measureRun_122 rfl (by decide) ?_
                dsimp only [lset]
                refine r_goto (tgt := 18) dX0_measureRun_125 (by decide) ?_
                first
                  | (rw [if_pos (by omega)] at hstep
                     refine ih (w + 1) _ _ _ (by omega) (by omega) ?_ (fun x j h => by rw [u2_n (by omega), u2_n (by omega), u2_n (by omega)]; exact g4 x j h) (g5.trans hstep) ?_ ?_
                     · exact ⟨u2_s, by rw [u2_n (Or.inr (by decide)), u2_s], by rw [u2_n (Or.inr (by decide)), u2_n (Or.inr (by decide)), u2_s]⟩
                     · dsimp only; omega
                     · dsimp only; omega)
                  | (rw [if_neg (by omega)] at hstep
                     refine ih (w + 1) _ _ _ (by omega) (by omega) ?_ (fun x j h => by rw [u2_n (by omega), u2_n (by omega)]; exact g4 x j h) (g5.trans hstep) ?_ ?_
                     · exact ⟨u2_s, by rw [u2_n (Or.inr (by decide)), u2_s], by rw [u2_n (Or.inr (by decide)), u2_n (Or.inr (by decide))]; exact g3.2.2⟩
                     · dsimp only; omega
                     · dsimp only; omega)
              · refine r_aload_n dX0_measureRun_82 rfl ?_
                refine r_iload dX0_measureRun_83 rfl ?_
                refine r_aload_n dX0_measureRun_85 rfl ?_
                refine q_getR fl_X0_12 dX0_measureRun_86 sf_34 (ro_34_0 hRO) ?_
                refine r_iload dX0_measureRun_89 rfl ?_
                refine q_callVF lk_X0_118 dX0_measureRun_91 (c_pointOf I1 R hRO w (by omega)) (by decide) sf_35 rfl rfl (Nat.le_of_ble_eq_true rfl) (by decide) ?_
                rw [if_pos (show 0 ≤ w ∧ w < 80 by omega), hww.2.2]
                refine r_iadd dX0_measureRun_94 ?_
                refine q_putI fl_X0_112 dX0_measureRun_95 sf_34 ?_
                refine r_aload_n dX0_measureRun_98 rfl ?_
                refine r_iload dX0_measureRun_99 rfl ?_
                refine r_aload_n dX0_measureRun_101 rfl ?_
                refine q_getR fl_X0_12 dX0_measureRun_102 sf_34 (ro_34_0 hRO) ?_
                refine r_iload dX0_measureRun_105 rfl ?_
                refine q_callVF lk_X0_115 dX0_measureRun_107 (c_lengthOf _ R hRO w (by omega)) (by decide) sf_35 rfl rfl (Nat.le_of_ble_eq_true rfl) (by decide) ?_
                rw [if_pos (show 0 ≤ w ∧ w < 80 by omega)]
                try rw [u2_n (Or.inl (by decide))]
                rw [hww.2.1]
                refine r_iadd dX0_measureRun_110 ?_
                refine q_putI fl_X0_109 dX0_measureRun_111 sf_34 ?_
                refine r_aload_n dX0_measureRun_114 rfl ?_
                refine r_iload dX0_measureRun_115 rfl ?_
                refine r_iconst dX0_measureRun_117 ?_
                refine r_iadd dX0_measureRun_118 ?_
                refine q_putI fl_X0_97 dX0_measureRun_119 sf_34 ?_
                refine r_iinc dX0_measureRun_122 rfl (by decide) ?_
                dsimp only [lset]
                refine r_goto (tgt := 18) dX0_measureRun_125 (by decide) ?_
                first
                  | (rw [if_pos (by omega)] at hstep
                     refine ih (w + 1) _ _ _ (by omega) (by omega) ?_ (fun x j h => by rw [u2_n (by omega), u2_n (by omega), u2_n (by omega)]; exact g4 x j h) (g5.trans hstep) ?_ ?_
                     · exact ⟨u2_s, by rw [u2_n (Or.inr (by decide)), u2_s], by rw [u2_n (Or.inr (by decide)), u2_n (Or.inr (by decide)), u2_s]⟩
                     · dsimp only; omega
                     · dsimp only; omega)
                  | (rw [if_neg (by omega)] at hstep
                     refine ih (w + 1) _ _ _ (by omega) (by omega) ?_ (fun x j h => by rw [u2_n (by omega), u2_n (by omega)]; exact g4 x j h) (g5.trans hstep) ?_ ?_
                     · exact ⟨u2_s, by rw [u2_n (Or.inr (by decide)), u2_s], by rw [u2_n (Or.inr (by decide)), u2_n (Or.inr (by decide))]; exact g3.2.2⟩
                     · dsimp only; omega
                     · dsimp only; omega)
          · rw [if_pos (by omega)] at hstep
            have hend : (sRn T.2.2.2.2.1 T.2.2.2.2.2.1 room a (b - a).toNat a (a, 0, -1)) = t := g5.trans hstep
            refine r_goto (tgt := 128) dX0_measureRun_58 (by decide) ?_
            refine r_aload_n dX0_measureRun_128 rfl ?_
            refine q_getI fl_X0_112 dX0_measureRun_129 sf_34 ?_
            rw [g3.2.2]
            refine r_iconst dX0_measureRun_132 ?_
            refine r_icmpne (tgt := 144) dX0_measureRun_133 (by decide) (by omega) (by omega) (fun h133 => ?_) (fun h133 => ?_)
            · refine q_vretW dX0_measureRun_144 rfl ?_
              have er : (sRun T.2.2.2.2.1 T.2.2.2.2.2.1 room a b) = (t.1, t.2.1, if t.2.2 = -1 then t.2.1 else t.2.2) := by
                unfold sRun
                rw [hend]
              rw [er]
              first
                | (rw [if_pos (by omega)]
                   exact ⟨⟨by rw [u2_n (Or.inr (by decide))]; exact g3.1, by rw [u2_n (Or.inr (by decide))]; exact g3.2.1, u2_s⟩, fun x j h => by rw [u2_n (by omega)]; exact g4 x j h⟩)
                | (rw [if_neg (by omega)]
                   exact ⟨g3, g4⟩)
            · refine r_aload_n dX0_measureRun_136 rfl ?_
              refine r_aload_n dX0_measureRun_137 rfl ?_
              refine q_getI fl_X0_109 dX0_measureRun_138 sf_34 ?_
              rw [g3.2.1]
              refine q_putI fl_X0_112 dX0_measureRun_141 sf_34 ?_
              refine q_vretW dX0_measureRun_144 rfl ?_
              have er : (sRun T.2.2.2.2.1 T.2.2.2.2.2.1 room a b) = (t.1, t.2.1, if t.2.2 = -1 then t.2.1 else t.2.2) := by
                unfold sRun
                rw [hend]
              rw [er]
              first
                | (rw [if_pos (by omega)]
                   exact ⟨⟨by rw [u2_n (Or.inr (by decide))]; exact g3.1, by rw [u2_n (Or.inr (by decide))]; exact g3.2.1, u2_s⟩, fun x j h => by rw [u2_n (by omega)]; exact g4 x j h⟩)
                | (rw [if_neg (by omega)]
                   exact ⟨g3, g4⟩)
        · have hs0 : (if w = a then 0 else t.2.1 + 1) = (0 : Int) := if_pos (by omega)
          rw [hs0] at hstep
          refine r_iconst dX0_measureRun_30 ?_
          refine r_goto (tgt := 40) dX0_measureRun_31 (by decide) ?_
          refine r_istore dX0_measureRun_40 (by decide) ?_
          dsimp only [lset]
          refine r_iload dX0_measureRun_42 rfl ?_
          refine r_aload_n dX0_measureRun_44 rfl ?_
          refine q_getR fl_X0_12 dX0_measureRun_45 sf_34 (ro_34_0 hRO) ?_
          refine r_iload dX0_measureRun_48 rfl ?_
          refine q_callVF lk_X0_115 dX0_measureRun_50 (c_lengthOf I1 R hRO w (by omega)) (by decide) sf_35 rfl rfl (Nat.le_of_ble_eq_true rfl) (by decide) ?_
          rw [if_pos (show 0 ≤ w ∧ w < 80 by omega), hww.2.1]
          refine r_iadd dX0_measureRun_53 ?_
          refine r_iload_n dX0_measureRun_54 rfl ?_
          refine r_icmple (tgt := 61) dX0_measureRun_55 (by decide) (by omega) (by omega) (fun h55 => ?_) (fun h55 => ?_)
          · rw [if_neg (by omega)] at hstep
            refine r_aload_n dX0_measureRun_61 rfl ?_
            refine q_getI fl_X0_112 dX0_measureRun_62 sf_34 ?_
            rw [g3.2.2]
            refine r_iconst dX0_measureRun_65 ?_
            refine r_icmpne (tgt := 98) dX0_measureRun_66 (by decide) (by omega) (by omega) (fun h66 => ?_) (fun h66 => ?_)
            · refine r_aload_n dX0_measureRun_98 rfl ?_
              refine r_iload dX0_measureRun_99 rfl ?_
              refine r_aload_n dX0_measureRun_101 rfl ?_
              refine q_getR fl_X0_12 dX0_measureRun_102 sf_34 (ro_34_0 hRO) ?_
              refine r_iload dX0_measureRun_105 rfl ?_
              refine q_callVF lk_X0_115 dX0_measureRun_107 (c_lengthOf _ R hRO w (by omega)) (by decide) sf_35 rfl rfl (Nat.le_of_ble_eq_true rfl) (by decide) ?_
              rw [if_pos (show 0 ≤ w ∧ w < 80 by omega)]
              try rw [u2_n (Or.inl (by decide))]
              rw [hww.2.1]
              refine r_iadd dX0_measureRun_110 ?_
              refine q_putI fl_X0_109 dX0_measureRun_111 sf_34 ?_
              refine r_aload_n dX0_measureRun_114 rfl ?_
              refine r_iload dX0_measureRun_115 rfl ?_
              refine r_iconst dX0_measureRun_117 ?_
              refine r_iadd dX0_measureRun_118 ?_
              refine q_putI fl_X0_97 dX0_measureRun_119 sf_34 ?_
              refine r_iinc dX0_measureRun_122 rfl (by decide) ?_
              dsimp only [lset]
              refine r_goto (tgt := 18) dX0_measureRun_125 (by decide) ?_
              first
                | (rw [if_pos (by omega)] at hstep
                   refine ih (w + 1) _ _ _ (by omega) (by omega) ?_ (fun x j h => by rw [u2_n (by omega), u2_n (by omega), u2_n (by omega)]; exact g4 x j h) (g5.trans hstep) ?_ ?_
                   · exact ⟨u2_s, by rw [u2_n (Or.inr (by decide)), u2_s], by rw [u2_n (Or.inr (by decide)), u2_n (Or.inr (by decide)), u2_s]⟩
                   · dsimp only; omega
                   · dsimp only; omega)
                | (rw [if_neg (by omega)] at hstep
                   refine ih (w + 1) _ _ _ (by omega) (by omega) ?_ (fun x j h => by rw [u2_n (by omega), u2_n (by omega)]; exact g4 x j h) (g5.trans hstep) ?_ ?_
                   · exact ⟨u2_s, by rw [u2_n (Or.inr (by decide)), u2_s], by rw [u2_n (Or.inr (by decide)), u2_n (Or.inr (by decide))]; exact g3.2.2⟩
                   · dsimp only; omega
                   · dsimp only; omega)
            · refine r_aload_n dX0_measureRun_69 rfl ?_
              refine q_getR fl_X0_12 dX0_measureRun_70 sf_34 (ro_34_0 hRO) ?_
              refine r_iload dX0_measureRun_73 rfl ?_
              refine q_callVF lk_X0_118 dX0_measureRun_75 (c_pointOf I1 R hRO w (by omega)) (by decide) sf_35 rfl rfl (Nat.le_of_ble_eq_true rfl) (by decide) ?_
              rw [if_pos (show 0 ≤ w ∧ w < 80 by omega), hww.2.2]
              refine r_iconst dX0_measureRun_78 ?_
              refine r_icmpeq (tgt := 98) dX0_measureRun_79 (by decide) (by omega) (by omega) (fun h79 => ?_) (fun h79 => ?_)
              · refine r_aload_n dX0_measureRun_98 rfl ?_
                refine r_iload dX0_measureRun_99 rfl ?_
                refine r_aload_n dX0_measureRun_101 rfl ?_
                refine q_getR fl_X0_12 dX0_measureRun_102 sf_34 (ro_34_0 hRO) ?_
                refine r_iload dX0_measureRun_105 rfl ?_
                refine q_callVF lk_X0_115 dX0_measureRun_107 (c_lengthOf _ R hRO w (by omega)) (by decide) sf_35 rfl rfl (Nat.le_of_ble_eq_true rfl) (by decide) ?_
                rw [if_pos (show 0 ≤ w ∧ w < 80 by omega)]
                try rw [u2_n (Or.inl (by decide))]
                rw [hww.2.1]
                refine r_iadd dX0_measureRun_110 ?_
                refine q_putI fl_X0_109 dX0_measureRun_111 sf_34 ?_
                refine r_aload_n dX0_measureRun_114 rfl ?_
                refine r_iload dX0_measureRun_115 rfl ?_
                refine r_iconst dX0_measureRun_117 ?_
                refine r_iadd dX0_measureRun_118 ?_
                refine q_putI fl_X0_97 dX0_measureRun_119 sf_34 ?_
                refine r_iinc dX0_measureRun_122 rfl (by decide) ?_
                dsimp only [lset]
                refine r_goto (tgt := 18) dX0_measureRun_125 (by decide) ?_
                first
                  | (rw [if_pos (by omega)] at hstep
                     refine ih (w + 1) _ _ _ (by omega) (by omega) ?_ (fun x j h => by rw [u2_n (by omega), u2_n (by omega), u2_n (by omega)]; exact g4 x j h) (g5.trans hstep) ?_ ?_
                     · exact ⟨u2_s, by rw [u2_n (Or.inr (by decide)), u2_s], by rw [u2_n (Or.inr (by decide)), u2_n (Or.inr (by decide)), u2_s]⟩
                     · dsimp only; omega
                     · dsimp only; omega)
                  | (rw [if_neg (by omega)] at hstep
                     refine ih (w + 1) _ _ _ (by omega) (by omega) ?_ (fun x j h => by rw [u2_n (by omega), u2_n (by omega)]; exact g4 x j h) (g5.trans hstep) ?_ ?_
                     · exact ⟨u2_s, by rw [u2_n (Or.inr (by decide)), u2_s], by rw [u2_n (Or.inr (by decide)), u2_n (Or.inr (by decide))]; exact g3.2.2⟩
                     · dsimp only; omega
                     · dsimp only; omega)
              · refine r_aload_n dX0_measureRun_82 rfl ?_
                refine r_iload dX0_measureRun_83 rfl ?_
                refine r_aload_n dX0_measureRun_85 rfl ?_
                refine q_getR fl_X0_12 dX0_measureRun_86 sf_34 (ro_34_0 hRO) ?_
                refine r_iload dX0_measureRun_89 rfl ?_
                refine q_callVF lk_X0_118 dX0_measureRun_91 (c_pointOf I1 R hRO w (by omega)) (by decide) sf_35 rfl rfl (Nat.le_of_ble_eq_true rfl) (by decide) ?_
                rw [if_pos (show 0 ≤ w ∧ w < 80 by omega), hww.2.2]
                refine r_iadd dX0_measureRun_94 ?_
                refine q_putI fl_X0_112 dX0_measureRun_95 sf_34 ?_
                refine r_aload_n dX0_measureRun_98 rfl ?_
                refine r_iload dX0_measureRun_99 rfl ?_
                refine r_aload_n dX0_measureRun_101 rfl ?_
                refine q_getR fl_X0_12 dX0_measureRun_102 sf_34 (ro_34_0 hRO) ?_
                refine r_iload dX0_measureRun_105 rfl ?_
                refine q_callVF lk_X0_115 dX0_measureRun_107 (c_lengthOf _ R hRO w (by omega)) (by decide) sf_35 rfl rfl (Nat.le_of_ble_eq_true rfl) (by decide) ?_
                rw [if_pos (show 0 ≤ w ∧ w < 80 by omega)]
                try rw [u2_n (Or.inl (by decide))]
                rw [hww.2.1]
                refine r_iadd dX0_measureRun_110 ?_
                refine q_putI fl_X0_109 dX0_measureRun_111 sf_34 ?_
                refine r_aload_n dX0_measureRun_114 rfl ?_
                refine r_iload dX0_measureRun_115 rfl ?_
                refine r_iconst dX0_measureRun_117 ?_
                refine r_iadd dX0_measureRun_118 ?_
                refine q_putI fl_X0_97 dX0_measureRun_119 sf_34 ?_
                refine r_iinc dX0_measureRun_122 rfl (by decide) ?_
                dsimp only [lset]
                refine r_goto (tgt := 18) dX0_measureRun_125 (by decide) ?_
                first
                  | (rw [if_pos (by omega)] at hstep
                     refine ih (w + 1) _ _ _ (by omega) (by omega) ?_ (fun x j h => by rw [u2_n (by omega), u2_n (by omega), u2_n (by omega)]; exact g4 x j h) (g5.trans hstep) ?_ ?_
                     · exact ⟨u2_s, by rw [u2_n (Or.inr (by decide)), u2_s], by rw [u2_n (Or.inr (by decide)), u2_n (Or.inr (by decide)), u2_s]⟩
                     · dsimp only; omega
                     · dsimp only; omega)
                  | (rw [if_neg (by omega)] at hstep
                     refine ih (w + 1) _ _ _ (by omega) (by omega) ?_ (fun x j h => by rw [u2_n (by omega), u2_n (by omega)]; exact g4 x j h) (g5.trans hstep) ?_ ?_
                     · exact ⟨u2_s, by rw [u2_n (Or.inr (by decide)), u2_s], by rw [u2_n (Or.inr (by decide)), u2_n (Or.inr (by decide))]; exact g3.2.2⟩
                     · dsimp only; omega
                     · dsimp only; omega)
          · rw [if_pos (by omega)] at hstep
            have hend : (sRn T.2.2.2.2.1 T.2.2.2.2.2.1 room a (b - a).toNat a (a, 0, -1)) = t := g5.trans hstep
            refine r_goto (tgt := 128) dX0_measureRun_58 (by decide) ?_
            refine r_aload_n dX0_measureRun_128 rfl ?_
            refine q_getI fl_X0_112 dX0_measureRun_129 sf_34 ?_
            rw [g3.2.2]
            refine r_iconst dX0_measureRun_132 ?_
            refine r_icmpne (tgt := 144) dX0_measureRun_133 (by decide) (by omega) (by omega) (fun h133 => ?_) (fun h133 => ?_)
            · refine q_vretW dX0_measureRun_144 rfl ?_
              have er : (sRun T.2.2.2.2.1 T.2.2.2.2.2.1 room a b) = (t.1, t.2.1, if t.2.2 = -1 then t.2.1 else t.2.2) := by
                unfold sRun
                rw [hend]
              rw [er]
              first
                | (rw [if_pos (by omega)]
                   exact ⟨⟨by rw [u2_n (Or.inr (by decide))]; exact g3.1, by rw [u2_n (Or.inr (by decide))]; exact g3.2.1, u2_s⟩, fun x j h => by rw [u2_n (by omega)]; exact g4 x j h⟩)
                | (rw [if_neg (by omega)]
                   exact ⟨g3, g4⟩)
            · refine r_aload_n dX0_measureRun_136 rfl ?_
              refine r_aload_n dX0_measureRun_137 rfl ?_
              refine q_getI fl_X0_109 dX0_measureRun_138 sf_34 ?_
              rw [g3.2.1]
              refine q_putI fl_X0_112 dX0_measureRun_141 sf_34 ?_
              refine q_vretW dX0_measureRun_144 rfl ?_
              have er : (sRun T.2.2.2.2.1 T.2.2.2.2.2.1 room a b) = (t.1, t.2.1, if t.2.2 = -1 then t.2.1 else t.2.2) := by
                unfold sRun
                rw [hend]
              rw [er]
              first
                | (rw [if_pos (by omega)]
                   exact ⟨⟨by rw [u2_n (Or.inr (by decide))]; exact g3.1, by rw [u2_n (Or.inr (by decide))]; exact g3.2.1, u2_s⟩, fun x j h => by rw [u2_n (by omega)]; exact g4 x j h⟩)
                | (rw [if_neg (by omega)]
                   exact ⟨g3, g4⟩)
  refine CC_of (own := RX0) (ini := false) (by decide +kernel) rfl (fun h => absurd h (by decide)) (Nat.le_of_ble_eq_true rfl) ?_
  show WW cX0_measureRun RX0 6 none false 1 0 0 (PW R (fun I1 => (I1 34 9 = (sRun T.2.2.2.2.1 T.2.2.2.2.2.1 room a b).1 ∧ I1 34 10 = (sRun T.2.2.2.2.1 T.2.2.2.2.2.1 room a b).2.1 ∧ I1 34 11 = (sRun T.2.2.2.2.1 T.2.2.2.2.2.1 room a b).2.2) ∧ (∀ (x : Nat) (j : Int), ¬ (x = 34 ∧ 9 ≤ j ∧ j ≤ 11) → I1 x j = I x j))) 0 0 0 [some (.inr (some 34)), some (.inl (a)), some (.inl (b)), some (.inl (room)), none, none] [] (290, ShF, I, R)
  refine r_aload_n dX0_measureRun_0 rfl ?_
  refine r_iload_n dX0_measureRun_1 rfl ?_
  refine q_putI fl_X0_97 dX0_measureRun_2 sf_34 ?_
  refine r_aload_n dX0_measureRun_5 rfl ?_
  refine r_iconst dX0_measureRun_6 ?_
  refine q_putI fl_X0_109 dX0_measureRun_7 sf_34 ?_
  refine r_aload_n dX0_measureRun_10 rfl ?_
  refine r_iconst dX0_measureRun_11 ?_
  refine q_putI fl_X0_112 dX0_measureRun_12 sf_34 ?_
  refine r_iload_n dX0_measureRun_15 rfl ?_
  refine r_istore dX0_measureRun_16 (by decide) ?_
  dsimp only [lset]
  exact hloop ((b - a).toNat + 1) a (a, 0, -1) _ _ (by omega) (by omega) ⟨by rw [u2_n (Or.inr (by decide)), u2_n (Or.inr (by decide)), u2_s], by rw [u2_n (Or.inr (by decide)), u2_s], u2_s⟩ (fun x j h => by rw [u2_n (by omega), u2_n (by omega), u2_n (by omega)]) rfl (by dsimp only; omega) (by dsimp only; omega)
