/-! the lines: the other object's runs, stops and leaders -/
/-- the length of n words from a on, and where their first point is -/
def rlF (ln : Int → Int) (a : Int) : Nat → Int
  | 0 => 0
  | n + 1 => (if n = 0 then 0 else rlF ln a n + 1) + ln (a + n)
def rpF (ln pt : Int → Int) (a : Int) : Nat → Int
  | 0 => -1
  | n + 1 => if rpF ln pt a n = -1 ∧ pt (a + n) ≠ -1 then (if n = 0 then 0 else rlF ln a n + 1) + pt (a + n) else rpF ln pt a n
theorem sRn_F {ln pt : Int → Int} {room a : Int} : ∀ (n k : Nat), ∃ q : Nat, k ≤ q ∧ q ≤ k + n ∧ sRn ln pt room a n (a + k) (a + k, rlF ln a k, rpF ln pt a k) = (a + q, rlF ln a q, rpF ln pt a q)
  | 0, k => ⟨k, Nat.le_refl _, Nat.le_refl _, rfl⟩
  | n + 1, k => by
    unfold sRn
    have hs : (if a + (k : Int) = a then 0 else rlF ln a k + 1) = (if k = 0 then (0 : Int) else rlF ln a k + 1) := by
      by_cases h : k = 0
      · rw [if_pos h, if_pos (by omega)]
      · rw [if_neg h, if_neg (by omega)]
    by_cases hr : room < (if a + (k : Int) = a then 0 else rlF ln a k + 1) + ln (a + k)
    · rw [if_pos hr]
      exact ⟨k, Nat.le_refl _, by omega, rfl⟩
    · rw [if_neg hr]
      obtain ⟨q, q1, q2, q3⟩ := sRn_F (ln := ln) (pt := pt) (room := room) (a := a) n (k + 1)
      refine ⟨q, by omega, by omega, ?_⟩
      rw [← q3]
      have e1 : a + (k : Int) + 1 = a + ((k + 1 : Nat) : Int) := by omega
      have e2 : rlF ln a (k + 1) = (if k = 0 then (0 : Int) else rlF ln a k + 1) + ln (a + k) := rfl
      have e3 : rpF ln pt a (k + 1) = if rpF ln pt a k = -1 ∧ pt (a + k) ≠ -1 then (if k = 0 then 0 else rlF ln a k + 1) + pt (a + k) else rpF ln pt a k := rfl
      rw [e1, e2, e3]
      dsimp only
      rw [hs]
theorem sRun_F (ln pt : Int → Int) (room a b : Int) : ∃ q : Nat, q ≤ (b - a).toNat ∧ sRun ln pt room a b = (a + q, rlF ln a q, if rpF ln pt a q = -1 then rlF ln a q else rpF ln pt a q) := by
  obtain ⟨q, _, q2, q3⟩ := sRn_F (ln := ln) (pt := pt) (room := room) (a := a) (b - a).toNat 0
  rw [show a + ((0 : Nat) : Int) = a by omega] at q3
  have q3 : sRn ln pt room a (b - a).toNat a (a, 0, -1) = (a + q, rlF ln a q, rpF ln pt a q) := q3
  refine ⟨q, by omega, ?_⟩
  unfold sRun
  rw [q3]
set_option maxHeartbeats 4000000 in
set_option maxRecDepth 100000 in
theorem m_endOfRun (I : Mem) (R : RMem) (hRO : RefOk R) {W D p s : Int} {y v : YV} (hC : MC I W D p s y v) (hWr : 20 ≤ W ∧ W ≤ 80) (hvl : 0 ≤ v.2.1 ∧ v.2.1 ≤ 80) (hok : ∀ j : Int, 0 ≤ j → j < v.2.1 → okc (v.2.2 j)) {st ln pt : Int → Int} (fr to a b most : Int) (hF : Fk st ln v.2.2 fr to a b) (hto : to ≤ v.2.1) (hm : -1000 ≤ most ∧ most ≤ 1000) (hb80 : b - a ≤ 81) : CC 2 0 0 yX8_endOfRun cX8_endOfRun 9 (some .int) [.inr (some 290), .inl (fr), .inl (to), .inl (most)] (298, ShF, I, R) (PF (if (sRun ln pt most a b).1 = a then nxW st to b a else st ((sRun ln pt most a b).1 - 1) + ln ((sRun ln pt most a b).1 - 1)) I R) := by
  have hab := hF.1
  have hbd := hF.bd
  have hfr0 := hF.2.1
  have hWk := hF.2.2.2
  have hne : ∀ w : Int, a ≤ w → w < b → st w < to ∧ v.2.2 (st w) ≠ 32 := fun w w1 w2 => by
    have h := hWk w w1 w2
    have h1 := h.1
    exact ⟨by omega, h.2.1 _ (Int.le_refl _) (by omega)⟩
  have hloop : ∀ (n : Nat) (w : Int) (t : RV) (u u4 : Int) (u8 : Option MV), b < w + n → (a ≤ w ∧ w ≤ b) → (t.1 = w ∧ (w = a → t.2.1 = 0) ∧ (a < w → 1 ≤ t.2.1) ∧ t.2.1 ≤ 81 * (w - a)) → (sRn ln pt most a (b - a).toNat a (a, 0, -1)) = sRn ln pt most a (b - w).toNat w t → u = (if w = a then nxW st to b a else st (w - 1) + ln (w - 1)) → WW cX8_endOfRun RX8 9 (some .int) false 2 0 0 (PF (if (sRun ln pt most a b).1 = a then nxW st to b a else st ((sRun ln pt most a b).1 - 1) + ln ((sRun ln pt most a b).1 - 1)) I R) 0 0 19 [some (.inr (some 290)), some (.inl (fr)), some (.inl (to)), some (.inl (most)), some (.inl (u4)), some (.inl (u)), some (.inl (t.2.1)), some (.inl (nxW st to b w)), u8] [] (298, ShF, I, R) := by
    intro n
    induction n with
    | zero => intros; exfalso; omega
    | succ n ih =>
      intro w t u u4 u8 g1 g2 g3 g4 g5
      have hnb : 0 ≤ (nxW st to b w) ∧ (nxW st to b w) ≤ 80 ∧ to ≤ 80 ∧ 0 ≤ to := by
        unfold nxW
        by_cases h : w < b
        · rw [if_pos h]
          have := (hWk w (by omega) h).1
          omega
        · rw [if_neg h]
          omega
      refine r_iload dX8_endOfRun_19 rfl ?_
      refine r_iload_n dX8_endOfRun_21 rfl ?_
      refine r_icmpge (tgt := 84) dX8_endOfRun_22 (by decide) (by omega) (by omega) (fun h22 => ?_) (fun h22 => ?_)
      · refine r_iload dX8_endOfRun_84 rfl ?_
        refine q_iretF dX8_endOfRun_86 rfl ?_
        have hwb : w = b := by
          unfold nxW at h22
          by_cases h : w < b
          · rw [if_pos h] at h22
            have := hne w (by omega) h
            omega
          · omega
        have hend : (sRn ln pt most a (b - a).toNat a (a, 0, -1)) = t := by
          rw [g4, show (b - w).toNat = 0 by omega]
          rfl
        have er : (sRun ln pt most a b).1 = w := by
          show (sRn ln pt most a (b - a).toNat a (a, 0, -1)).1 = w
          rw [hend]
          exact g3.1
        rw [er]
        exact g5
      · have hwb : w < b := by
          unfold nxW at h22
          by_cases h : w < b
          · exact h
          · rw [if_neg h] at h22
            omega
        have hnx : (nxW st to b w) = st w := if_pos hwb
        rw [hnx]
        have hw := hWk w (by omega) hwb
        have hw1 := hw.1
        have hstep : sRn ln pt most a (b - w).toNat w t = if most < (if w = a then 0 else t.2.1 + 1) + ln w then t else sRn ln pt most a (b - (w + 1)).toNat (w + 1) (w + 1, (if w = a then 0 else t.2.1 + 1) + ln w, if t.2.2 = -1 ∧ pt w ≠ -1 then (if w = a then 0 else t.2.1 + 1) + pt w else t.2.2) := by
          rw [show (b - w).toNat = (b - (w + 1)).toNat + 1 by omega]
          rfl
        refine r_aload_n dX8_endOfRun_25 rfl ?_
        refine r_iload dX8_endOfRun_26 rfl ?_
        refine r_iload_n dX8_endOfRun_28 rfl ?_
        refine q_callVF lk_X8_134 dX8_endOfRun_29 (m_endOfWord I R hRO hC hWr hvl (ln := ln) (st w) to b w rfl hw hwb hto hok) (by decide) sf_290 rfl rfl (Nat.le_of_ble_eq_true rfl) (by decide) ?_
        refine r_istore dX8_endOfRun_32 (by decide) ?_
        dsimp only [lset]
        refine r_iload dX8_endOfRun_34 rfl ?_
        refine r_iload dX8_endOfRun_36 rfl ?_
        refine r_ifle (tgt := 45) dX8_endOfRun_38 (by decide) (by omega) (fun h38 => ?_) (fun h38 => ?_)
        · have hs0 : (if w = a then 0 else t.2.1 + 1) = 0 := if_pos (by omega)
          rw [hs0] at hstep
          refine r_iconst dX8_endOfRun_45 ?_
          refine r_iload dX8_endOfRun_46 rfl ?_
          refine r_iadd dX8_endOfRun_48 ?_
          refine r_iload dX8_endOfRun_49 rfl ?_
          refine r_isub dX8_endOfRun_51 ?_
          refine r_iadd dX8_endOfRun_52 ?_
          first
            | rw [show t.2.1 + (1 + (st w + ln w) - st w) = t.2.1 + 1 + ln w by omega]
            | rw [show t.2.1 + (0 + (st w + ln w) - st w) = 0 + ln w by omega]
          refine r_istore dX8_endOfRun_53 (by decide) ?_
          dsimp only [lset]
          refine r_iload dX8_endOfRun_55 rfl ?_
          refine r_iload_n dX8_endOfRun_57 rfl ?_
          refine r_icmple (tgt := 64) dX8_endOfRun_58 (by decide) (by omega) (by omega) (fun h58 => ?_) (fun h58 => ?_)
          · rw [if_neg (by omega)] at hstep
            refine r_iload dX8_endOfRun_64 rfl ?_
            refine r_istore dX8_endOfRun_66 (by decide) ?_
            dsimp only [lset]
            refine r_iload dX8_endOfRun_68 rfl ?_
            refine r_istore dX8_endOfRun_70 (by decide) ?_
            dsimp only [lset]
            refine r_aload_n dX8_endOfRun_72 rfl ?_
            refine r_iload dX8_endOfRun_73 rfl ?_
            refine r_iload_n dX8_endOfRun_75 rfl ?_
            refine q_callVF lk_X8_131 dX8_endOfRun_76 (m_wordFrom I R hRO hC hWr hvl (st w + ln w) to b (w + 1) hw.2.2.2 (by omega) (by omega) hto (fun q => hne (w + 1) (by omega) q) hok) (by decide) sf_290 rfl rfl (Nat.le_of_ble_eq_true rfl) (by decide) ?_
            refine r_istore dX8_endOfRun_79 (by decide) ?_
            dsimp only [lset]
            refine r_goto (tgt := 19) dX8_endOfRun_81 (by decide) ?_
            have hu : st w + ln w = (if (w + 1) = a then nxW st to b a else st ((w + 1) - 1) + ln ((w + 1) - 1)) := by
              rw [if_neg (by omega), show w + 1 - 1 = w by omega]
            first
              | exact ih (w + 1) (w + 1, 0 + ln w, _) _ _ _ (by omega) (by omega) ⟨rfl, fun q => by omega, fun _ => by show 1 ≤ 0 + ln w; omega, by show 0 + ln w ≤ 81 * (w + 1 - a); omega⟩ (g4.trans hstep) hu
              | exact ih (w + 1) (w + 1, t.2.1 + 1 + ln w, _) _ _ _ (by omega) (by omega) ⟨rfl, fun q => by omega, fun _ => by show 1 ≤ t.2.1 + 1 + ln w; omega, by show t.2.1 + 1 + ln w ≤ 81 * (w + 1 - a); omega⟩ (g4.trans hstep) hu
          · rw [if_pos (by omega)] at hstep
            have hend := g4.trans hstep
            refine r_iload dX8_endOfRun_61 rfl ?_
            refine q_iretF dX8_endOfRun_63 rfl ?_
            have er : (sRun ln pt most a b).1 = w := by
              show (sRn ln pt most a (b - a).toNat a (a, 0, -1)).1 = w
              rw [hend]
              exact g3.1
            rw [er]
            exact g5
        · have hs0 : (if w = a then 0 else t.2.1 + 1) = t.2.1 + 1 := if_neg (by omega)
          rw [hs0] at hstep
          refine r_iconst dX8_endOfRun_41 ?_
          refine r_goto (tgt := 46) dX8_endOfRun_42 (by decide) ?_
          refine r_iload dX8_endOfRun_46 rfl ?_
          refine r_iadd dX8_endOfRun_48 ?_
          refine r_iload dX8_endOfRun_49 rfl ?_
          refine r_isub dX8_endOfRun_51 ?_
          refine r_iadd dX8_endOfRun_52 ?_
          first
            | rw [show t.2.1 + (1 + (st w + ln w) - st w) = t.2.1 + 1 + ln w by omega]
            | rw [show t.2.1 + (0 + (st w + ln w) - st w) = 0 + ln w by omega]
          refine r_istore dX8_endOfRun_53 (by decide) ?_
          dsimp only [lset]
          refine r_iload dX8_endOfRun_55 rfl ?_
          refine r_iload_n dX8_endOfRun_57 rfl ?_
          refine r_icmple (tgt := 64) dX8_endOfRun_58 (by decide) (by omega) (by omega) (fun h58 => ?_) (fun h58 => ?_)
          · rw [if_neg (by omega)] at hstep
            refine r_iload dX8_endOfRun_64 rfl ?_
            refine r_istore dX8_endOfRun_66 (by decide) ?_
            dsimp only [lset]
            refine r_iload dX8_endOfRun_68 rfl ?_
            refine r_istore dX8_endOfRun_70 (by decide) ?_
            dsimp only [lset]
            refine r_aload_n dX8_endOfRun_72 rfl ?_
            refine r_iload dX8_endOfRun_73 rfl ?_
            refine r_iload_n dX8_endOfRun_75 rfl ?_
            refine q_callVF lk_X8_131 dX8_endOfRun_76 (m_wordFrom I R hRO hC hWr hvl (st w + ln w) to b (w + 1) hw.2.2.2 (by omega) (by omega) hto (fun q => hne (w + 1) (by omega) q) hok) (by decide) sf_290 rfl rfl (Nat.le_of_ble_eq_true rfl) (by decide) ?_
            refine r_istore dX8_endOfRun_79 (by decide) ?_
            dsimp only [lset]
            refine r_goto (tgt := 19) dX8_endOfRun_81 (by decide) ?_
            have hu : st w + ln w = (if (w + 1) = a then nxW st to b a else st ((w + 1) - 1) + ln ((w + 1) - 1)) := by
              rw [if_neg (by omega), show w + 1 - 1 = w by omega]
            first
              | exact ih (w + 1) (w + 1, 0 + ln w, _) _ _ _ (by omega) (by omega) ⟨rfl, fun q => by omega, fun _ => by show 1 ≤ 0 + ln w; omega, by show 0 + ln w ≤ 81 * (w + 1 - a); omega⟩ (g4.trans hstep) hu
              | exact ih (w + 1) (w + 1, t.2.1 + 1 + ln w, _) _ _ _ (by omega) (by omega) ⟨rfl, fun q => by omega, fun _ => by show 1 ≤ t.2.1 + 1 + ln w; omega, by show t.2.1 + 1 + ln w ≤ 81 * (w + 1 - a); omega⟩ (g4.trans hstep) hu
          · rw [if_pos (by omega)] at hstep
            have hend := g4.trans hstep
            refine r_iload dX8_endOfRun_61 rfl ?_
            refine q_iretF dX8_endOfRun_63 rfl ?_
            have er : (sRun ln pt most a b).1 = w := by
              show (sRn ln pt most a (b - a).toNat a (a, 0, -1)).1 = w
              rw [hend]
              exact g3.1
            rw [er]
            exact g5
  refine CC_of (own := RX8) (ini := false) (by decide +kernel) rfl (fun h => absurd h (by decide)) (Nat.le_of_ble_eq_true rfl) ?_
  show WW cX8_endOfRun RX8 9 (some .int) false 2 0 0 (PF (if (sRun ln pt most a b).1 = a then nxW st to b a else st ((sRun ln pt most a b).1 - 1) + ln ((sRun ln pt most a b).1 - 1)) I R) 0 0 0 [some (.inr (some 290)), some (.inl (fr)), some (.inl (to)), some (.inl (most)), none, none, none, none, none] [] (298, ShF, I, R)
  refine r_aload_n dX8_endOfRun_0 rfl ?_
  refine r_iload_n dX8_endOfRun_1 rfl ?_
  refine r_iload_n dX8_endOfRun_2 rfl ?_
  refine q_callVF lk_X8_131 dX8_endOfRun_3 (m_wordFrom I R hRO hC hWr hvl fr to b a hF.2.2.1 hab hfr0 hto (fun q => hne a (Int.le_refl _) q) hok) (by decide) sf_290 rfl rfl (Nat.le_of_ble_eq_true rfl) (by decide) ?_
  refine r_istore dX8_endOfRun_6 (by decide) ?_
  dsimp only [lset]
  refine r_iload dX8_endOfRun_8 rfl ?_
  refine r_istore dX8_endOfRun_10 (by decide) ?_
  dsimp only [lset]
  refine r_iconst dX8_endOfRun_12 ?_
  refine r_istore dX8_endOfRun_13 (by decide) ?_
  dsimp only [lset]
  refine r_iload dX8_endOfRun_15 rfl ?_
  refine r_istore dX8_endOfRun_17 (by decide) ?_
  dsimp only [lset]
  exact hloop ((b - a).toNat + 1) a (a, 0, -1) _ _ _ (by omega) (by omega) ⟨rfl, fun _ => rfl, fun q => by omega, by show (0 : Int) ≤ 81 * (a - a); omega⟩ rfl (if_pos rfl).symm
set_option maxHeartbeats 4000000 in
set_option maxRecDepth 100000 in
theorem m_lengthOf (I : Mem) (R : RMem) (hRO : RefOk R) {W D p s : Int} {y v : YV} (hC : MC I W D p s y v) (hWr : 20 ≤ W ∧ W ≤ 80) (hvl : 0 ≤ v.2.1 ∧ v.2.1 ≤ 80) (hok : ∀ j : Int, 0 ≤ j → j < v.2.1 → okc (v.2.2 j)) {st ln pt : Int → Int} (fr to a b ip : Int) (hip : ip = 0 ∨ ip = 1) (hFp : Fp v.2.2 st ln pt fr to a b) (hto : to ≤ v.2.1) (hb80 : b - a ≤ 81) : CC 2 0 0 yX8_lengthOf cX8_lengthOf 7 (some .int) [.inr (some 290), .inl (fr), .inl (to), .inl (ip)] (298, ShF, I, R) (PF (if ip = 0 then rlF ln a (b - a).toNat else if rpF ln pt a (b - a).toNat = -1 then rlF ln a (b - a).toNat else rpF ln pt a (b - a).toNat) I R) := by
  have hF := hFp.1
  have hab := hF.1
  have hbd := hF.bd
  have hfr0 := hF.2.1
  have hWk := hF.2.2.2
  have hne : ∀ w : Int, a ≤ w → w < b → st w < to ∧ v.2.2 (st w) ≠ 32 := fun w w1 w2 => by
    have h := hWk w w1 w2
    have h1 := h.1
    exact ⟨by omega, h.2.1 _ (Int.le_refl _) (by omega)⟩
  have hRP : ∀ (q r : Nat), rpF ln pt a q ≠ -1 → rpF ln pt a (q + r) = rpF ln pt a q := by
    intro q r h
    induction r with
    | zero => rfl
    | succ r ih =>
      show (if rpF ln pt a (q + r) = -1 ∧ pt (a + ((q + r : Nat) : Int)) ≠ -1 then (if q + r = 0 then 0 else rlF ln a (q + r) + 1) + pt (a + ((q + r : Nat) : Int)) else rpF ln pt a (q + r)) = _
      rw [ih, if_neg (fun z => h z.1)]
  have hloop : ∀ (n : Nat) (w h : Int) (u6 : Option MV), b < w + n → (a ≤ w ∧ w ≤ b) → h = rlF ln a (w - a).toNat → (ip = 1 → rpF ln pt a (w - a).toNat = -1) → ((w = a → h = 0) ∧ (a < w → 1 ≤ h) ∧ 0 ≤ h ∧ h ≤ 81 * (w - a)) → WW cX8_lengthOf RX8 7 (some .int) false 2 0 0 (PF (if ip = 0 then rlF ln a (b - a).toNat else if rpF ln pt a (b - a).toNat = -1 then rlF ln a (b - a).toNat else rpF ln pt a (b - a).toNat) I R) 0 0 11 [some (.inr (some 290)), some (.inl (fr)), some (.inl (to)), some (.inl (ip)), some (.inl (h)), some (.inl (nxW st to b w)), u6] [] (298, ShF, I, R) := by
    intro n
    induction n with
    | zero => intros; exfalso; omega
    | succ n ih =>
      intro w h u6 g1 g2 g3 g4 g5
      have hnb : 0 ≤ (nxW st to b w) ∧ (nxW st to b w) ≤ 80 ∧ to ≤ 80 ∧ 0 ≤ to := by
        unfold nxW
        by_cases h : w < b
        · rw [if_pos h]
          have := (hWk w (by omega) h).1
          omega
        · rw [if_neg h]
          omega
      refine r_iload dX8_lengthOf_11 rfl ?_
      refine r_iload_n dX8_lengthOf_13 rfl ?_
      refine r_icmpge (tgt := 87) dX8_lengthOf_14 (by decide) (by omega) (by omega) (fun h14 => ?_) (fun h14 => ?_)
      · refine r_iload dX8_lengthOf_87 rfl ?_
        refine q_iretF dX8_lengthOf_89 rfl ?_
        have hwb : w = b := by
          unfold nxW at h14
          by_cases h : w < b
          · rw [if_pos h] at h14
            have := hne w (by omega) h
            omega
          · omega
        rw [hwb] at g3 g4
        by_cases hi : ip = 0
        · rw [if_pos hi, g3]
        · rw [if_neg hi, if_pos (g4 (by omega)), g3]
      · have hwb : w < b := by
          unfold nxW at h14
          by_cases h : w < b
          · exact h
          · rw [if_neg h] at h14
            omega
        have hnx : (nxW st to b w) = st w := if_pos hwb
        rw [hnx]
        have hw := hWk w (by omega) hwb
        have hw1 := hw.1
        have hpt := hFp.2 w (by omega) hwb
        have hrl : rlF ln a (w + 1 - a).toNat = (if w = a then 0 else h + 1) + ln w := by
          rw [show (w + 1 - a).toNat = (w - a).toNat + 1 by omega]
          show (if (w - a).toNat = 0 then 0 else rlF ln a (w - a).toNat + 1) + ln (a + (((w - a).toNat : Nat) : Int)) = _
          rw [show a + (((w - a).toNat : Nat) : Int) = w by omega, ← g3]
          by_cases hwa : w = a
          · rw [if_pos (by omega), if_pos hwa]
          · rw [if_neg (by omega), if_neg hwa]
        have hrp : rpF ln pt a (w + 1 - a).toNat = if rpF ln pt a (w - a).toNat = -1 ∧ pt w ≠ -1 then (if w = a then 0 else h + 1) + pt w else rpF ln pt a (w - a).toNat := by
          rw [show (w + 1 - a).toNat = (w - a).toNat + 1 by omega]
          show (if rpF ln pt a (w - a).toNat = -1 ∧ pt (a + (((w - a).toNat : Nat) : Int)) ≠ -1 then (if (w - a).toNat = 0 then 0 else rlF ln a (w - a).toNat + 1) + pt (a + (((w - a).toNat : Nat) : Int)) else rpF ln pt a (w - a).toNat) = _
          rw [show a + (((w - a).toNat : Nat) : Int) = w by omega, ← g3]
          by_cases hwa : w = a
          · rw [if_pos (show (w - a).toNat = 0 by omega), if_pos hwa]
          · rw [if_neg (show ¬ (w - a).toNat = 0 by omega), if_neg hwa]
        have hlast : (w + 1 - a).toNat ≤ (b - a).toNat := by omega
        refine r_iload dX8_lengthOf_17 rfl ?_
        refine r_iload dX8_lengthOf_19 rfl ?_
        refine r_ifle (tgt := 28) dX8_lengthOf_21 (by decide) (by omega) (fun h21 => ?_) (fun h21 => ?_)
        · refine r_iconst dX8_lengthOf_28 ?_
          refine r_iadd dX8_lengthOf_29 ?_
          refine r_istore dX8_lengthOf_30 (by decide) ?_
          dsimp only [lset]
          have hh0 : h + 0 = 0 := by omega
          rw [hh0]
          refine r_aload_n dX8_lengthOf_32 rfl ?_
          refine r_iload dX8_lengthOf_33 rfl ?_
          refine r_iload_n dX8_lengthOf_35 rfl ?_
          refine q_callVF lk_X8_134 dX8_lengthOf_36 (m_endOfWord I R hRO hC hWr hvl (ln := ln) (st w) to b w rfl hw hwb hto hok) (by decide) sf_290 rfl rfl (Nat.le_of_ble_eq_true rfl) (by decide) ?_
          refine r_istore dX8_lengthOf_39 (by decide) ?_
          dsimp only [lset]
          have hs0 : (if w = a then 0 else h + 1) = 0 := (if_pos (by omega))
          rw [hs0] at hrl hrp
          have hin : ∀ (N : Nat) (j : Int), ln w - j < N → (0 ≤ j ∧ j ≤ ln w) → (ip = 1 → ∀ x : Int, st w ≤ x → x < st w + j → v.2.2 x ≠ 46) → WW cX8_lengthOf RX8 7 (some .int) false 2 0 0 (PF (if ip = 0 then rlF ln a (b - a).toNat else if rpF ln pt a (b - a).toNat = -1 then rlF ln a (b - a).toNat else rpF ln pt a (b - a).toNat) I R) 0 0 41 [some (.inr (some 290)), some (.inl fr), some (.inl to), some (.inl ip), some (.inl (0 + j)), some (.inl (st w + j)), some (.inl (st w + ln w))] [] (298, ShF, I, R) := by
            intro N
            induction N with
            | zero => intros; exfalso; omega
            | succ N ihN =>
              intro j e1 e2 e3
              refine r_iload dX8_lengthOf_41 rfl ?_
              refine r_iload dX8_lengthOf_43 rfl ?_
              refine r_icmpge (tgt := 75) dX8_lengthOf_45 (by decide) (by omega) (by omega) (fun h45 => ?_) (fun h45 => ?_)
              · have hjl : j = ln w := by omega
                rw [hjl]
                refine r_aload_n dX8_lengthOf_75 rfl ?_
                refine r_iload dX8_lengthOf_76 rfl ?_
                refine r_iload_n dX8_lengthOf_78 rfl ?_
                refine q_callVF lk_X8_131 dX8_lengthOf_79 (m_wordFrom I R hRO hC hWr hvl (st w + ln w) to b (w + 1) hw.2.2.2 (by omega) (by omega) hto (fun q => hne (w + 1) (by omega) q) hok) (by decide) sf_290 rfl rfl (Nat.le_of_ble_eq_true rfl) (by decide) ?_
                refine r_istore dX8_lengthOf_82 (by decide) ?_
                dsimp only [lset]
                refine r_goto (tgt := 11) dX8_lengthOf_84 (by decide) ?_
                refine ih (w + 1) (0 + ln w) _ (by omega) (by omega) hrl.symm (fun hi => ?_) (by omega)
                have hp1 : pt w = -1 := by
                  rcases hpt with q | q
                  · exact q.1
                  · exact absurd q.2.1 (e3 hi _ (by omega) (by omega))
                rw [hrp, if_neg (fun z => z.2 hp1)]
                exact g4 hi
              · refine r_iload_n dX8_lengthOf_48 rfl ?_
                refine r_ifeq (tgt := 66) dX8_lengthOf_49 (by decide) (by omega) (fun h49 => ?_) (fun h49 => ?_)
                · refine r_iinc dX8_lengthOf_66 rfl (by decide) ?_
                  dsimp only [lset]
                  refine r_iinc dX8_lengthOf_69 rfl (by decide) ?_
                  dsimp only [lset]
                  refine r_goto (tgt := 41) dX8_lengthOf_72 (by decide) ?_
                  rw [show 0 + j + 1 = 0 + (j + 1) by omega, show st w + j + 1 = st w + (j + 1) by omega]
                  refine ihN (j + 1) (by omega) (by omega) (fun hi x x1 x2 => ?_)
                  by_cases hx : x = st w + j
                  · rw [hx]
                    first
                      | (exfalso; omega)
                      | exact h60
                  · exact e3 hi x x1 (by omega)
                · refine r_aload_n dX8_lengthOf_52 rfl ?_
                  refine r_iload dX8_lengthOf_53 rfl ?_
                  
                  refine q_callVF lk_X8_128 dX8_lengthOf_55 (m_letterAt I R hRO hC hWr hvl (st w + j) (by omega)) (by decide) sf_290 rfl rfl (Nat.le_of_ble_eq_true rfl) (by decide) ?_
                  have hck := hok (st w + j) (by omega) (by omega)
                  unfold okc at hck
                  refine r_bipush dX8_lengthOf_58 (by decide) ?_
                  refine r_icmpne (tgt := 66) dX8_lengthOf_60 (by decide) (by omega) (by omega) (fun h60 => ?_) (fun h60 => ?_)
                  · refine r_iinc dX8_lengthOf_66 rfl (by decide) ?_
                    dsimp only [lset]
                    refine r_iinc dX8_lengthOf_69 rfl (by decide) ?_
                    dsimp only [lset]
                    refine r_goto (tgt := 41) dX8_lengthOf_72 (by decide) ?_
                    rw [show 0 + j + 1 = 0 + (j + 1) by omega, show st w + j + 1 = st w + (j + 1) by omega]
                    refine ihN (j + 1) (by omega) (by omega) (fun hi x x1 x2 => ?_)
                    by_cases hx : x = st w + j
                    · rw [hx]
                      first
                        | (exfalso; omega)
                        | exact h60
                    · exact e3 hi x x1 (by omega)
                  · refine r_iload dX8_lengthOf_63 rfl ?_
                    refine q_iretF dX8_lengthOf_65 rfl ?_
                    have hi1 : ip = 1 := by omega
                    have hpt2 : pt w = j := by
                      rcases hpt with q | q
                      · exact absurd h60 (q.2 _ (by omega) (by omega))
                      · have hj1 : ¬ (pt w < j) := fun hh => e3 hi1 (st w + pt w) (by omega) (by omega) q.2.1
                        have hj2 : ¬ (j < pt w) := fun hh => q.2.2 (st w + j) (by omega) (by omega) h60
                        omega
                    rw [if_pos ⟨g4 hi1, by omega⟩] at hrp
                    have hk := hRP (w + 1 - a).toNat ((b - a).toNat - (w + 1 - a).toNat) (by rw [hrp]; omega)
                    rw [show (w + 1 - a).toNat + ((b - a).toNat - (w + 1 - a).toNat) = (b - a).toNat by omega] at hk
                    rw [if_neg (show ¬ ip = 0 by omega), hk, hrp, if_neg (show ¬ 0 + pt w = -1 by omega), hpt2]
          have hgo := hin ((ln w).toNat + 1) 0 (by omega) (by omega) (fun _ x x1 x2 => by omega)
          rw [Int.add_zero, Int.add_zero] at hgo
          exact hgo
        · refine r_iconst dX8_lengthOf_24 ?_
          refine r_goto (tgt := 29) dX8_lengthOf_25 (by decide) ?_
          refine r_iadd dX8_lengthOf_29 ?_
          refine r_istore dX8_lengthOf_30 (by decide) ?_
          dsimp only [lset]
          refine r_aload_n dX8_lengthOf_32 rfl ?_
          refine r_iload dX8_lengthOf_33 rfl ?_
          refine r_iload_n dX8_lengthOf_35 rfl ?_
          refine q_callVF lk_X8_134 dX8_lengthOf_36 (m_endOfWord I R hRO hC hWr hvl (ln := ln) (st w) to b w rfl hw hwb hto hok) (by decide) sf_290 rfl rfl (Nat.le_of_ble_eq_true rfl) (by decide) ?_
          refine r_istore dX8_lengthOf_39 (by decide) ?_
          dsimp only [lset]
          have hs0 : (if w = a then 0 else h + 1) = (h + 1) := (if_neg (by omega))
          rw [hs0] at hrl hrp
          have hin : ∀ (N : Nat) (j : Int), ln w - j < N → (0 ≤ j ∧ j ≤ ln w) → (ip = 1 → ∀ x : Int, st w ≤ x → x < st w + j → v.2.2 x ≠ 46) → WW cX8_lengthOf RX8 7 (some .int) false 2 0 0 (PF (if ip = 0 then rlF ln a (b - a).toNat else if rpF ln pt a (b - a).toNat = -1 then rlF ln a (b - a).toNat else rpF ln pt a (b - a).toNat) I R) 0 0 41 [some (.inr (some 290)), some (.inl fr), some (.inl to), some (.inl ip), some (.inl ((h + 1) + j)), some (.inl (st w + j)), some (.inl (st w + ln w))] [] (298, ShF, I, R) := by
            intro N
            induction N with
            | zero => intros; exfalso; omega
            | succ N ihN =>
              intro j e1 e2 e3
              refine r_iload dX8_lengthOf_41 rfl ?_
              refine r_iload dX8_lengthOf_43 rfl ?_
              refine r_icmpge (tgt := 75) dX8_lengthOf_45 (by decide) (by omega) (by omega) (fun h45 => ?_) (fun h45 => ?_)
              · have hjl : j = ln w := by omega
                rw [hjl]
                refine r_aload_n dX8_lengthOf_75 rfl ?_
                refine r_iload dX8_lengthOf_76 rfl ?_
                refine r_iload_n dX8_lengthOf_78 rfl ?_
                refine q_callVF lk_X8_131 dX8_lengthOf_79 (m_wordFrom I R hRO hC hWr hvl (st w + ln w) to b (w + 1) hw.2.2.2 (by omega) (by omega) hto (fun q => hne (w + 1) (by omega) q) hok) (by decide) sf_290 rfl rfl (Nat.le_of_ble_eq_true rfl) (by decide) ?_
                refine r_istore dX8_lengthOf_82 (by decide) ?_
                dsimp only [lset]
                refine r_goto (tgt := 11) dX8_lengthOf_84 (by decide) ?_
                refine ih (w + 1) ((h + 1) + ln w) _ (by omega) (by omega) hrl.symm (fun hi => ?_) (by omega)
                have hp1 : pt w = -1 := by
                  rcases hpt with q | q
                  · exact q.1
                  · exact absurd q.2.1 (e3 hi _ (by omega) (by omega))
                rw [hrp, if_neg (fun z => z.2 hp1)]
                exact g4 hi
              · refine r_iload_n dX8_lengthOf_48 rfl ?_
                refine r_ifeq (tgt := 66) dX8_lengthOf_49 (by decide) (by omega) (fun h49 => ?_) (fun h49 => ?_)
                · refine r_iinc dX8_lengthOf_66 rfl (by decide) ?_
                  dsimp only [lset]
                  refine r_iinc dX8_lengthOf_69 rfl (by decide) ?_
                  dsimp only [lset]
                  refine r_goto (tgt := 41) dX8_lengthOf_72 (by decide) ?_
                  rw [show (h + 1) + j + 1 = (h + 1) + (j + 1) by omega, show st w + j + 1 = st w + (j + 1) by omega]
                  refine ihN (j + 1) (by omega) (by omega) (fun hi x x1 x2 => ?_)
                  by_cases hx : x = st w + j
                  · rw [hx]
                    first
                      | (exfalso; omega)
                      | exact h60
                  · exact e3 hi x x1 (by omega)
                · refine r_aload_n dX8_lengthOf_52 rfl ?_
                  refine r_iload dX8_lengthOf_53 rfl ?_
                  
                  refine q_callVF lk_X8_128 dX8_lengthOf_55 (m_letterAt I R hRO hC hWr hvl (st w + j) (by omega)) (by decide) sf_290 rfl rfl (Nat.le_of_ble_eq_true rfl) (by decide) ?_
                  have hck := hok (st w + j) (by omega) (by omega)
                  unfold okc at hck
                  refine r_bipush dX8_lengthOf_58 (by decide) ?_
                  refine r_icmpne (tgt := 66) dX8_lengthOf_60 (by decide) (by omega) (by omega) (fun h60 => ?_) (fun h60 => ?_)
                  · refine r_iinc dX8_lengthOf_66 rfl (by decide) ?_
                    dsimp only [lset]
                    refine r_iinc dX8_lengthOf_69 rfl (by decide) ?_
                    dsimp only [lset]
                    refine r_goto (tgt := 41) dX8_lengthOf_72 (by decide) ?_
                    rw [show (h + 1) + j + 1 = (h + 1) + (j + 1) by omega, show st w + j + 1 = st w + (j + 1) by omega]
                    refine ihN (j + 1) (by omega) (by omega) (fun hi x x1 x2 => ?_)
                    by_cases hx : x = st w + j
                    · rw [hx]
                      first
                        | (exfalso; omega)
                        | exact h60
                    · exact e3 hi x x1 (by omega)
                  · refine r_iload dX8_lengthOf_63 rfl ?_
                    refine q_iretF dX8_lengthOf_65 rfl ?_
                    have hi1 : ip = 1 := by omega
                    have hpt2 : pt w = j := by
                      rcases hpt with q | q
                      · exact absurd h60 (q.2 _ (by omega) (by omega))
                      · have hj1 : ¬ (pt w < j) := fun hh => e3 hi1 (st w + pt w) (by omega) (by omega) q.2.1
                        have hj2 : ¬ (j < pt w) := fun hh => q.2.2 (st w + j) (by omega) (by omega) h60
                        omega
                    rw [if_pos ⟨g4 hi1, by omega⟩] at hrp
                    have hk := hRP (w + 1 - a).toNat ((b - a).toNat - (w + 1 - a).toNat) (by rw [hrp]; omega)
                    rw [show (w + 1 - a).toNat + ((b - a).toNat - (w + 1 - a).toNat) = (b - a).toNat by omega] at hk
                    rw [if_neg (show ¬ ip = 0 by omega), hk, hrp, if_neg (show ¬ (h + 1) + pt w = -1 by omega), hpt2]
          have hgo := hin ((ln w).toNat + 1) 0 (by omega) (by omega) (fun _ x x1 x2 => by omega)
          rw [Int.add_zero, Int.add_zero] at hgo
          exact hgo
  refine CC_of (own := RX8) (ini := false) (by decide +kernel) rfl (fun h => absurd h (by decide)) (Nat.le_of_ble_eq_true rfl) ?_
  show WW cX8_lengthOf RX8 7 (some .int) false 2 0 0 (PF (if ip = 0 then rlF ln a (b - a).toNat else if rpF ln pt a (b - a).toNat = -1 then rlF ln a (b - a).toNat else rpF ln pt a (b - a).toNat) I R) 0 0 0 [some (.inr (some 290)), some (.inl (fr)), some (.inl (to)), some (.inl (ip)), none, none, none] [] (298, ShF, I, R)
  refine r_iconst dX8_lengthOf_0 ?_
  refine r_istore dX8_lengthOf_1 (by decide) ?_
  dsimp only [lset]
  refine r_aload_n dX8_lengthOf_3 rfl ?_
  refine r_iload_n dX8_lengthOf_4 rfl ?_
  refine r_iload_n dX8_lengthOf_5 rfl ?_
  refine q_callVF lk_X8_131 dX8_lengthOf_6 (m_wordFrom I R hRO hC hWr hvl fr to b a hF.2.2.1 hab hfr0 hto (fun q => hne a (Int.le_refl _) q) hok) (by decide) sf_290 rfl rfl (Nat.le_of_ble_eq_true rfl) (by decide) ?_
  refine r_istore dX8_lengthOf_9 (by decide) ?_
  dsimp only [lset]
  exact hloop ((b - a).toNat + 1) a 0 _ (by omega) (by omega) (by rw [show (a - a).toNat = 0 by omega]; rfl) (fun _ => by rw [show (a - a).toNat = 0 by omega]; rfl) (by omega)
