/-! calls that tell of lines: the other object -/
set_option maxHeartbeats 4000000 in
set_option maxRecDepth 100000 in
theorem m_lines (I : Mem) (R : RMem) (hRO : RefOk R) (a : AS) (hM : MI I a) (p : Int) (hp : -2147483648 ≤ p ∧ p ≤ 2147483647) : CC 8 0 0 yX8_lines cX8_lines 2 (some .int) [.inr (some 290), .inl (p)] (298, ShF, I, R) (PM (aLines a p, a) I R) := by
  have hA := hM.1
  have hW := hA.1
  have hW1 := hW.1
  have hW2 := hW.2.1
  have hW3 := hW.2.2.1
  have hS := hM.2.1
  refine CC_of (own := RX8) (ini := false) (by decide +kernel) rfl (fun h => absurd h (by decide)) (Nat.le_of_ble_eq_true rfl) ?_
  show WW cX8_lines RX8 2 (some .int) false 8 0 0 (PM (aLines a p, a) I R) 0 0 0 [some (.inr (some 290)), some (.inl (p))] [] (298, ShF, I, R)
  refine r_aload_n dX8_lines_0 rfl ?_
  refine r_iload_n dX8_lines_1 rfl ?_
  refine q_callVF lk_X8_96 dX8_lines_2 (m_isParagraph I R hRO a.1.1.2.2 hS.2.2.1 hW3 p hp) (by decide) sf_290 rfl rfl (Nat.le_of_ble_eq_true rfl) (by decide) ?_
  refine q_ifeqB (tgt := 22) dX8_lines_5 (by decide) (fun h5 => ?_) (fun h5 => ?_)
  · refine r_iconst dX8_lines_22 ?_
    refine q_iretZ dX8_lines_23 rfl ?_
    refine ⟨?_, hM, fun _ _ _ => rfl⟩
    show -1 = aLines a p
    unfold aLines
    rw [if_neg (by omega)]
  · refine r_aload_n dX8_lines_8 rfl ?_
    refine r_iload_n dX8_lines_9 rfl ?_
    refine r_aload_n dX8_lines_10 rfl ?_
    refine q_getR fl_X8_7 dX8_lines_11 sf_290 (ro_290_0 hRO) ?_
    refine r_iconst dX8_lines_14 ?_
    refine q_iald dX8_lines_15 sf_291 (by omega) ?_
    rw [hS.1]
    refine q_callVZ lk_X8_187 dX8_lines_16 (m_lays I R hRO a hM p a.1.1.1 (by omega) (by omega)) (by decide) sf_290 rfl rfl (Nat.le_of_ble_eq_true rfl) (by decide) (fun z5 I5 h5 => ?_)
    obtain ⟨hz5, hB5, hF5, hN5, hW5, hk5⟩ := h5
    subst hz5
    have hM5 : MI I5 a := hM.scr (fun x j h => hk5 x j (by omega) (by omega))
    have hinv : Inv a.1.1.1 (lyA a p a.1.1.1) 80 80 := layS_inv (by omega) hW2 (hW.2.2.2.1 (a.1.2.2 p.toNat).1.toNat (by have := (hW.2.2.2.2 p.toNat (by omega)).1; omega)) (hW.2.2.2.2 p.toNat (by omega))
    have hrow := hinv.1
    refine r_goto (tgt := 23) dX8_lines_19 (by decide) ?_
    refine q_iretZ dX8_lines_23 rfl ?_
    refine ⟨?_, hM5, fun x j h => hk5 x j (by omega) (by omega)⟩
    show _ = aLines a p
    unfold aLines
    rw [if_pos (by omega)]
set_option maxHeartbeats 4000000 in
set_option maxRecDepth 100000 in
theorem m_linesWith (I : Mem) (R : RMem) (hRO : RefOk R) (a : AS) (hM : MI I a) (p : Int) (hp : -2147483648 ≤ p ∧ p ≤ 2147483647) (c : Int) (hc : -2147483648 ≤ c ∧ c ≤ 2147483647) : CC 8 0 0 yX8_linesWith cX8_linesWith 3 (some .int) [.inr (some 290), .inl (p), .inl (c)] (298, ShF, I, R) (PM (aLinesWith a p c, a) I R) := by
  have hA := hM.1
  have hW := hA.1
  have hW1 := hW.1
  have hW2 := hW.2.1
  have hW3 := hW.2.2.1
  have hS := hM.2.1
  refine CC_of (own := RX8) (ini := false) (by decide +kernel) rfl (fun h => absurd h (by decide)) (Nat.le_of_ble_eq_true rfl) ?_
  show WW cX8_linesWith RX8 3 (some .int) false 8 0 0 (PM (aLinesWith a p c, a) I R) 0 0 0 [some (.inr (some 290)), some (.inl (p)), some (.inl (c))] [] (298, ShF, I, R)
  refine r_aload_n dX8_linesWith_0 rfl ?_
  refine r_iload_n dX8_linesWith_1 rfl ?_
  refine q_callVF lk_X8_96 dX8_linesWith_2 (m_isParagraph I R hRO a.1.1.2.2 hS.2.2.1 hW3 p hp) (by decide) sf_290 rfl rfl (Nat.le_of_ble_eq_true rfl) (by decide) ?_
  refine q_ifeqB (tgt := 28) dX8_linesWith_5 (by decide) (fun h5 => ?_) (fun h5 => ?_)
  · refine r_iconst dX8_linesWith_28 ?_
    refine q_iretZ dX8_linesWith_29 rfl ?_
    refine ⟨?_, hM, fun _ _ _ => rfl⟩
    show -1 = aLinesWith a p c
    unfold aLinesWith
    rw [if_neg (by omega)]
  · refine r_iload_n dX8_linesWith_8 rfl ?_
    refine r_bipush dX8_linesWith_9 (by decide) ?_
    refine r_bipush dX8_linesWith_11 (by decide) ?_
    refine q_callSF lk_X8_36 dX8_linesWith_13 (c_in I R c 20 80 hc (by decide) (by decide)) (by decide) rfl rfl (Nat.le_of_ble_eq_true rfl) (by decide) ?_
    refine q_ifeqB (tgt := 28) dX8_linesWith_16 (by decide) (fun h16 => ?_) (fun h16 => ?_)
    · refine r_iconst dX8_linesWith_28 ?_
      refine q_iretZ dX8_linesWith_29 rfl ?_
      refine ⟨?_, hM, fun _ _ _ => rfl⟩
      show -1 = aLinesWith a p c
      unfold aLinesWith
      rw [if_neg (by omega)]
    · refine r_aload_n dX8_linesWith_19 rfl ?_
      refine r_iload_n dX8_linesWith_20 rfl ?_
      refine r_iload_n dX8_linesWith_21 rfl ?_
      refine q_callVZ lk_X8_187 dX8_linesWith_22 (m_lays I R hRO a hM p c (by omega) (by omega)) (by decide) sf_290 rfl rfl (Nat.le_of_ble_eq_true rfl) (by decide) (fun z5 I5 h5 => ?_)
      obtain ⟨hz5, hB5, hF5, hN5, hW5, hk5⟩ := h5
      subst hz5
      have hM5 : MI I5 a := hM.scr (fun x j h => hk5 x j (by omega) (by omega))
      have hinv : Inv c (lyA a p c) 80 80 := layS_inv (by omega) hW2 (hW.2.2.2.1 (a.1.2.2 p.toNat).1.toNat (by have := (hW.2.2.2.2 p.toNat (by omega)).1; omega)) (hW.2.2.2.2 p.toNat (by omega))
      have hrow := hinv.1
      refine r_goto (tgt := 29) dX8_linesWith_25 (by decide) ?_
      refine q_iretZ dX8_linesWith_29 rfl ?_
      refine ⟨?_, hM5, fun x j h => hk5 x j (by omega) (by omega)⟩
      show _ = aLinesWith a p c
      unfold aLinesWith
      rw [if_pos (by omega)]
set_option maxHeartbeats 4000000 in
set_option maxRecDepth 100000 in
theorem m_lesser (I : Mem) (R : RMem) (x : Int) (hx : -2147483648 ≤ x ∧ x ≤ 2147483647) (y : Int) (hy : -2147483648 ≤ y ∧ y ≤ 2147483647) : CC 0 0 0 yX8_lesser cX8_lesser 2 (some .int) [.inl (x), .inl (y)] (298, ShF, I, R) (PF (if x < y then x else y) I R) := by
  refine CC_of (own := RX8) (ini := false) (by decide +kernel) rfl (fun h => absurd h (by decide)) (Nat.le_of_ble_eq_true rfl) ?_
  show WW cX8_lesser RX8 2 (some .int) false 0 0 0 (PF (if x < y then x else y) I R) 0 0 0 [some (.inl (x)), some (.inl (y))] [] (298, ShF, I, R)
  refine r_iload_n dX8_lesser_0 rfl ?_
  refine r_iload_n dX8_lesser_1 rfl ?_
  refine r_icmpge (tgt := 9) dX8_lesser_2 (by decide) (by omega) (by omega) (fun h2 => ?_) (fun h2 => ?_)
  · refine r_iload_n dX8_lesser_9 rfl ?_
    refine q_iretF dX8_lesser_10 rfl ?_
    first | exact (if_pos (by omega)).symm | exact (if_neg (by omega)).symm
  · refine r_iload_n dX8_lesser_5 rfl ?_
    refine r_goto (tgt := 10) dX8_lesser_6 (by decide) ?_
    refine q_iretF dX8_lesser_10 rfl ?_
    first | exact (if_pos (by omega)).symm | exact (if_neg (by omega)).symm
set_option maxHeartbeats 4000000 in
set_option maxRecDepth 100000 in
theorem m_leastColumns (I : Mem) (R : RMem) (hRO : RefOk R) (a : AS) (hM : MI I a) (p : Int) (hp : -2147483648 ≤ p ∧ p ≤ 2147483647) (m : Int) (hm : -2147483648 ≤ m ∧ m ≤ 2147483647) : CC 8 0 0 yX8_leastColumns cX8_leastColumns 4 (some .int) [.inr (some 290), .inl (p), .inl (m)] (298, ShF, I, R) (PM (aLeast a p m, a) I R) := by
  have hA := hM.1
  have hW := hA.1
  have hW1 := hW.1
  have hW2 := hW.2.1
  have hW3 := hW.2.2.1
  have hS := hM.2.1
  have hloop : ∀ (n : Nat) (c : Int) (I2 : Mem), 81 < c + n → (20 ≤ c ∧ c ≤ 81) → MI I2 a → (∀ (x : Nat) (j : Int), x < 290 → I2 x j = I x j) → aLeast a p m = lcG a p m (81 - c).toNat c → (0 ≤ p ∧ p ≤ a.1.1.2.2 - 1) → WW cX8_leastColumns RX8 4 (some .int) false 8 0 0 (PM (aLeast a p m, a) I R) 0 0 23 [some (.inr (some 290)), some (.inl (p)), some (.inl (m)), some (.inl (c))] [] (298, ShF, I2, R) := by
    intro n
    induction n with
    | zero => intros; exfalso; omega
    | succ n ih =>
      intro c I2 g1 g2 g3 g4 g5 g6
      refine r_iload_n dX8_leastColumns_23 rfl ?_
      refine r_bipush dX8_leastColumns_24 (by decide) ?_
      refine r_icmpgt (tgt := 45) dX8_leastColumns_26 (by decide) (by omega) (by omega) (fun h26 => ?_) (fun h26 => ?_)
      · refine r_iload_n dX8_leastColumns_45 rfl ?_
        refine r_bipush dX8_leastColumns_46 (by decide) ?_
        refine q_callSF lk_X8_190 dX8_leastColumns_48 (m_lesser _ R c (by omega) 81 (by decide)) (by decide) rfl rfl (Nat.le_of_ble_eq_true rfl) (by decide) ?_
        have hls : (if c < 81 then c else 81) = c := by
          split <;> omega
        rw [hls]
        refine r_bipush dX8_leastColumns_51 (by decide) ?_
        refine r_icmple (tgt := 61) dX8_leastColumns_53 (by decide) (by omega) (by omega) (fun h53 => ?_) (fun h53 => ?_)
        · refine r_iload_n dX8_leastColumns_61 rfl ?_
          refine q_iretZ dX8_leastColumns_62 rfl ?_
          first
            | (exfalso; omega)
            | (refine ⟨?_, g3, g4⟩
               show -9 = aLeast a p m
               rw [g5, show (81 - c).toNat = 0 by omega]
               rfl)
            | (refine ⟨?_, hM5, fun x j h => (hk5 x j (by omega) (by omega)).trans (g4 x j h)⟩
               show c = aLeast a p m
               rw [g5, hst, if_pos (by omega)])
        · refine r_bipush dX8_leastColumns_56 (by decide) ?_
          refine r_goto (tgt := 62) dX8_leastColumns_58 (by decide) ?_
          refine q_iretZ dX8_leastColumns_62 rfl ?_
          first
            | (exfalso; omega)
            | (refine ⟨?_, g3, g4⟩
               show -9 = aLeast a p m
               rw [g5, show (81 - c).toNat = 0 by omega]
               rfl)
            | (refine ⟨?_, hM5, fun x j h => (hk5 x j (by omega) (by omega)).trans (g4 x j h)⟩
               show c = aLeast a p m
               rw [g5, hst, if_pos (by omega)])
      · have hst : lcG a p m (81 - c).toNat c = if (lyA a p c).1 + 1 ≤ m then c else lcG a p m (81 - (c + 1)).toNat (c + 1) := by
          rw [show (81 - c).toNat = (81 - (c + 1)).toNat + 1 by omega]
          rfl
        refine r_aload_n dX8_leastColumns_29 rfl ?_
        refine r_iload_n dX8_leastColumns_30 rfl ?_
        refine r_iload_n dX8_leastColumns_31 rfl ?_
        refine q_callVZ lk_X8_187 dX8_leastColumns_32 (m_lays I2 R hRO a g3 p c (by omega) (by omega)) (by decide) sf_290 rfl rfl (Nat.le_of_ble_eq_true rfl) (by decide) (fun z5 I5 h5 => ?_)
        obtain ⟨hz5, hB5, hF5, hN5, hW5, hk5⟩ := h5
        subst hz5
        have hM5 : MI I5 a := g3.scr (fun x j h => hk5 x j (by omega) (by omega))
        have hinv : Inv c (lyA a p c) 80 80 := layS_inv (by omega) hW2 (hW.2.2.2.1 (a.1.2.2 p.toNat).1.toNat (by have := (hW.2.2.2.2 p.toNat (by omega)).1; omega)) (hW.2.2.2.2 p.toNat (by omega))
        have hrow := hinv.1
        refine r_iload_n dX8_leastColumns_35 rfl ?_
        refine r_icmple (tgt := 45) dX8_leastColumns_36 (by decide) (by omega) (by omega) (fun h36 => ?_) (fun h36 => ?_)
        · refine r_iload_n dX8_leastColumns_45 rfl ?_
          refine r_bipush dX8_leastColumns_46 (by decide) ?_
          refine q_callSF lk_X8_190 dX8_leastColumns_48 (m_lesser _ R c (by omega) 81 (by decide)) (by decide) rfl rfl (Nat.le_of_ble_eq_true rfl) (by decide) ?_
          have hls : (if c < 81 then c else 81) = c := by
            split <;> omega
          rw [hls]
          refine r_bipush dX8_leastColumns_51 (by decide) ?_
          refine r_icmple (tgt := 61) dX8_leastColumns_53 (by decide) (by omega) (by omega) (fun h53 => ?_) (fun h53 => ?_)
          · refine r_iload_n dX8_leastColumns_61 rfl ?_
            refine q_iretZ dX8_leastColumns_62 rfl ?_
            first
              | (exfalso; omega)
              | (refine ⟨?_, g3, g4⟩
                 show -9 = aLeast a p m
                 rw [g5, show (81 - c).toNat = 0 by omega]
                 rfl)
              | (refine ⟨?_, hM5, fun x j h => (hk5 x j (by omega) (by omega)).trans (g4 x j h)⟩
                 show c = aLeast a p m
                 rw [g5, hst, if_pos (by omega)])
          · refine r_bipush dX8_leastColumns_56 (by decide) ?_
            refine r_goto (tgt := 62) dX8_leastColumns_58 (by decide) ?_
            refine q_iretZ dX8_leastColumns_62 rfl ?_
            first
              | (exfalso; omega)
              | (refine ⟨?_, g3, g4⟩
                 show -9 = aLeast a p m
                 rw [g5, show (81 - c).toNat = 0 by omega]
                 rfl)
              | (refine ⟨?_, hM5, fun x j h => (hk5 x j (by omega) (by omega)).trans (g4 x j h)⟩
                 show c = aLeast a p m
                 rw [g5, hst, if_pos (by omega)])
        · refine r_iinc dX8_leastColumns_39 rfl (by decide) ?_
          dsimp only [lset]
          refine r_goto (tgt := 23) dX8_leastColumns_42 (by decide) ?_
          refine ih (c + 1) I5 (by omega) (by omega) hM5 (fun x j h => (hk5 x j (by omega) (by omega)).trans (g4 x j h)) ?_ g6
          rw [g5, hst, if_neg (by omega)]
  refine CC_of (own := RX8) (ini := false) (by decide +kernel) rfl (fun h => absurd h (by decide)) (Nat.le_of_ble_eq_true rfl) ?_
  show WW cX8_leastColumns RX8 4 (some .int) false 8 0 0 (PM (aLeast a p m, a) I R) 0 0 0 [some (.inr (some 290)), some (.inl (p)), some (.inl (m)), none] [] (298, ShF, I, R)
  refine r_aload_n dX8_leastColumns_0 rfl ?_
  refine r_iload_n dX8_leastColumns_1 rfl ?_
  refine q_callVF lk_X8_96 dX8_leastColumns_2 (m_isParagraph I R hRO a.1.1.2.2 hS.2.2.1 hW3 p hp) (by decide) sf_290 rfl rfl (Nat.le_of_ble_eq_true rfl) (by decide) ?_
  refine q_ifeqB (tgt := 18) dX8_leastColumns_5 (by decide) (fun h5 => ?_) (fun h5 => ?_)
  · refine r_iconst dX8_leastColumns_18 ?_
    refine q_iretZ dX8_leastColumns_19 rfl ?_
    refine ⟨?_, hM, fun _ _ _ => rfl⟩
    show -1 = aLeast a p m
    unfold aLeast
    rw [if_neg (by omega)]
  · refine r_iload_n dX8_leastColumns_8 rfl ?_
    refine r_iconst dX8_leastColumns_9 ?_
    refine r_bipush dX8_leastColumns_10 (by decide) ?_
    refine q_callSF lk_X8_36 dX8_leastColumns_12 (c_in I R m 1 99 hm (by decide) (by decide)) (by decide) rfl rfl (Nat.le_of_ble_eq_true rfl) (by decide) ?_
    refine q_ifneB (tgt := 20) dX8_leastColumns_15 (by decide) (fun h15 => ?_) (fun h15 => ?_)
    · refine r_bipush dX8_leastColumns_20 (by decide) ?_
      refine r_istore_n dX8_leastColumns_22 (by decide) ?_
      dsimp only [lset]
      exact hloop 62 20 I (by omega) (by omega) hM (fun _ _ _ => rfl) (if_pos (by omega)) (by omega)
    · refine r_iconst dX8_leastColumns_18 ?_
      refine q_iretZ dX8_leastColumns_19 rfl ?_
      refine ⟨?_, hM, fun _ _ _ => rfl⟩
      show -1 = aLeast a p m
      unfold aLeast
      rw [if_neg (by omega)]
set_option maxHeartbeats 4000000 in
set_option maxRecDepth 100000 in
theorem m_field (I : Mem) (R : RMem) (hRO : RefOk R) (a : AS) (hM : MI I a) (p : Int) (hp : -2147483648 ≤ p ∧ p ≤ 2147483647) (g : Int) (hg : -2147483648 ≤ g ∧ g ≤ 2147483647) (w : Int) (hw : -2147483648 ≤ w ∧ w ≤ 2147483647) : CC 8 0 0 yX8_field cX8_field 5 (some .int) [.inr (some 290), .inl (p), .inl (g), .inl (w)] (298, ShF, I, R) (PM (aField a p g w, a) I R) := by
  have hA := hM.1
  have hW := hA.1
  have hW1 := hW.1
  have hW2 := hW.2.1
  have hW3 := hW.2.2.1
  have hS := hM.2.1
  refine CC_of (own := RX8) (ini := false) (by decide +kernel) rfl (fun h => absurd h (by decide)) (Nat.le_of_ble_eq_true rfl) ?_
  show WW cX8_field RX8 5 (some .int) false 8 0 0 (PM (aField a p g w, a) I R) 0 0 0 [some (.inr (some 290)), some (.inl (p)), some (.inl (g)), some (.inl (w)), none] [] (298, ShF, I, R)
  refine r_aload_n dX8_field_0 rfl ?_
  refine r_iload_n dX8_field_1 rfl ?_
  refine q_callVF lk_X8_96 dX8_field_2 (m_isParagraph I R hRO a.1.1.2.2 hS.2.2.1 hW3 p hp) (by decide) sf_290 rfl rfl (Nat.le_of_ble_eq_true rfl) (by decide) ?_
  refine q_ifeqB (tgt := 21) dX8_field_5 (by decide) (fun h5 => ?_) (fun h5 => ?_)
  · refine r_iconst dX8_field_21 ?_
    refine q_iretZ dX8_field_22 rfl ?_
    refine ⟨?_, hM, fun _ _ _ => rfl⟩
    show -1 = aField a p g w
    unfold aField
    rw [if_neg (by omega)]
  · refine r_iload_n dX8_field_8 rfl ?_
    refine r_iflt (tgt := 21) dX8_field_9 (by decide) (by omega) (fun h9 => ?_) (fun h9 => ?_)
    · refine r_iconst dX8_field_21 ?_
      refine q_iretZ dX8_field_22 rfl ?_
      refine ⟨?_, hM, fun _ _ _ => rfl⟩
      show -1 = aField a p g w
      unfold aField
      rw [if_neg (by omega)]
    · refine r_iload_n dX8_field_12 rfl ?_
      refine r_iconst dX8_field_13 ?_
      refine r_iconst dX8_field_14 ?_
      refine q_callSF lk_X8_36 dX8_field_15 (c_in I R w 0 5 hw (by decide) (by decide)) (by decide) rfl rfl (Nat.le_of_ble_eq_true rfl) (by decide) ?_
      refine q_ifneB (tgt := 23) dX8_field_18 (by decide) (fun h18 => ?_) (fun h18 => ?_)
      · refine r_aload_n dX8_field_23 rfl ?_
        refine r_iload_n dX8_field_24 rfl ?_
        refine r_aload_n dX8_field_25 rfl ?_
        refine q_getR fl_X8_7 dX8_field_26 sf_290 (ro_290_0 hRO) ?_
        refine r_iconst dX8_field_29 ?_
        refine q_iald dX8_field_30 sf_291 (by omega) ?_
        rw [hS.1]
        refine q_callVZ lk_X8_187 dX8_field_31 (m_lays I R hRO a hM p a.1.1.1 (by omega) (by omega)) (by decide) sf_290 rfl rfl (Nat.le_of_ble_eq_true rfl) (by decide) (fun z5 I5 h5 => ?_)
        obtain ⟨hz5, hB5, hF5, hN5, hW5, hk5⟩ := h5
        subst hz5
        have hM5 : MI I5 a := hM.scr (fun x j h => hk5 x j (by omega) (by omega))
        have hinv : Inv a.1.1.1 (lyA a p a.1.1.1) 80 80 := layS_inv (by omega) hW2 (hW.2.2.2.1 (a.1.2.2 p.toNat).1.toNat (by have := (hW.2.2.2.2 p.toNat (by omega)).1; omega)) (hW.2.2.2.2 p.toNat (by omega))
        have hrow := hinv.1
        have hnf := (wdT_ok (hW.2.2.2.2 p.toNat (by omega))).1
        have hvl := (hW.2.2.2.2 p.toNat (by omega)).2.1
        refine r_istore dX8_field_34 (by decide) ?_
        dsimp only [lset]
        refine r_iload_n dX8_field_36 rfl ?_
        refine r_aload_n dX8_field_37 rfl ?_
        refine q_getI fl_X8_181 dX8_field_38 sf_290 ?_
        rw [hN5]
        refine r_icmpge (tgt := 63) dX8_field_41 (by decide) (by omega) (by omega) (fun h41 => ?_) (fun h41 => ?_)
        · refine r_bipush dX8_field_63 (by decide) ?_
          refine q_iretZ dX8_field_65 rfl ?_
          first
            | (refine ⟨?_, hM5, fun x j h => hk5 x j (by omega) (by omega)⟩
               show _ = aField a p g w
               unfold aField
               rw [if_pos (by omega)]
               rw [if_neg (by omega)])
            | (refine ⟨?_, hM5, fun x j h => hk5 x j (by omega) (by omega)⟩
               show _ = aField a p g w
               unfold aField
               rw [if_pos (by omega), if_pos (by omega)]
               exact hF5 g w (by omega) (by omega) (by omega) (by omega))
        · refine r_iload dX8_field_44 rfl ?_
          refine r_ifle (tgt := 63) dX8_field_46 (by decide) (by omega) (fun h46 => ?_) (fun h46 => ?_)
          · refine r_bipush dX8_field_63 (by decide) ?_
            refine q_iretZ dX8_field_65 rfl ?_
            first
              | (refine ⟨?_, hM5, fun x j h => hk5 x j (by omega) (by omega)⟩
                 show _ = aField a p g w
                 unfold aField
                 rw [if_pos (by omega)]
                 rw [if_neg (by omega)])
              | (refine ⟨?_, hM5, fun x j h => hk5 x j (by omega) (by omega)⟩
                 show _ = aField a p g w
                 unfold aField
                 rw [if_pos (by omega), if_pos (by omega)]
                 exact hF5 g w (by omega) (by omega) (by omega) (by omega))
          · refine r_aload_n dX8_field_49 rfl ?_
            refine q_getR fl_X8_29 dX8_field_50 sf_290 (ro_290_10 hRO) ?_
            refine r_bipush dX8_field_53 (by decide) ?_
            refine r_iload_n dX8_field_55 rfl ?_
            refine r_imul dX8_field_56 ?_
            refine r_iload_n dX8_field_57 rfl ?_
            refine r_iadd dX8_field_58 ?_
            refine q_iald dX8_field_59 sf_297 (by omega) ?_
            refine r_goto (tgt := 65) dX8_field_60 (by decide) ?_
            refine q_iretZ dX8_field_65 rfl ?_
            first
              | (refine ⟨?_, hM5, fun x j h => hk5 x j (by omega) (by omega)⟩
                 show _ = aField a p g w
                 unfold aField
                 rw [if_pos (by omega)]
                 rw [if_neg (by omega)])
              | (refine ⟨?_, hM5, fun x j h => hk5 x j (by omega) (by omega)⟩
                 show _ = aField a p g w
                 unfold aField
                 rw [if_pos (by omega), if_pos (by omega)]
                 exact hF5 g w (by omega) (by omega) (by omega) (by omega))
      · refine r_iconst dX8_field_21 ?_
        refine q_iretZ dX8_field_22 rfl ?_
        refine ⟨?_, hM, fun _ _ _ => rfl⟩
        show -1 = aField a p g w
        unfold aField
        rw [if_neg (by omega)]
set_option maxHeartbeats 4000000 in
set_option maxRecDepth 100000 in
theorem m_count (I : Mem) (R : RMem) (hRO : RefOk R) (a : AS) (hM : MI I a) (w : Int) (hw : -2147483648 ≤ w ∧ w ≤ 2147483647) : CC 8 0 0 yX8_count cX8_count 4 (some .int) [.inr (some 290), .inl (w)] (298, ShF, I, R) (PM (aCount a w, a) I R) := by
  have hA := hM.1
  have hW := hA.1
  have hW1 := hW.1
  have hW2 := hW.2.1
  have hW3 := hW.2.2.1
  have hS := hM.2.1
  have hloop : ∀ (n : Nat) (s p : Int) (I2 : Mem), 8 < p + n → (0 ≤ p ∧ p ≤ a.1.1.2.2) → MI I2 a → (∀ (x : Nat) (j : Int), x < 290 → I2 x j = I x j) → s = lnG a p.toNat → WW cX8_count RX8 4 (some .int) false 8 0 0 (PM (aCount a 3, a) I R) 0 0 51 [some (.inr (some 290)), some (.inl 3), some (.inl (s)), some (.inl (p))] [] (298, ShF, I2, R) := by
    intro n
    induction n with
    | zero => intros; exfalso; omega
    | succ n ih =>
      intro s p I2 g1 g2 g3 g4 g5
      refine r_iload_n dX8_count_51 rfl ?_
      refine r_aload_n dX8_count_52 rfl ?_
      refine q_getR fl_X8_7 dX8_count_53 sf_290 (ro_290_0 hRO) ?_
      refine r_iconst dX8_count_56 ?_
      refine q_iald dX8_count_57 sf_291 (by omega) ?_
      have hc2 : I2 291 2 = a.1.1.2.2 := g3.2.1.2.2.1
      rw [hc2]
      refine r_icmpge (tgt := 81) dX8_count_58 (by decide) (by omega) (by omega) (fun h58 => ?_) (fun h58 => ?_)
      · refine r_iload_n dX8_count_81 rfl ?_
        refine q_iretZ dX8_count_82 rfl ?_
        refine ⟨?_, g3, g4⟩
        show s = lnG a a.1.1.2.2.toNat
        rw [g5, show p = a.1.1.2.2 by omega]
      · refine r_iload_n dX8_count_61 rfl ?_
        refine r_aload_n dX8_count_62 rfl ?_
        refine r_iload_n dX8_count_63 rfl ?_
        refine r_aload_n dX8_count_64 rfl ?_
        refine q_getR fl_X8_7 dX8_count_65 sf_290 (ro_290_0 hRO) ?_
        refine r_iconst dX8_count_68 ?_
        refine q_iald dX8_count_69 sf_291 (by omega) ?_
        have hw2 : I2 291 0 = a.1.1.1 := g3.2.1.1
        rw [hw2]
        refine q_callVZ lk_X8_187 dX8_count_70 (m_lays I2 R hRO a g3 p a.1.1.1 (by omega) (by omega)) (by decide) sf_290 rfl rfl (Nat.le_of_ble_eq_true rfl) (by decide) (fun z5 I5 h5 => ?_)
        obtain ⟨hz5, hB5, hF5, hN5, hW5, hk5⟩ := h5
        subst hz5
        have hM5 : MI I5 a := g3.scr (fun x j h => hk5 x j (by omega) (by omega))
        have hinv : Inv a.1.1.1 (lyA a p a.1.1.1) 80 80 := layS_inv (by omega) hW2 (hW.2.2.2.1 (a.1.2.2 p.toNat).1.toNat (by have := (hW.2.2.2.2 p.toNat (by omega)).1; omega)) (hW.2.2.2.2 p.toNat (by omega))
        have hrow := hinv.1
        have hst : lnG a (p + 1).toNat = lnG a p.toNat + ((lyA a p a.1.1.1).1 + 1) := by
          rw [show (p + 1).toNat = p.toNat + 1 by omega]
          show lnG a p.toNat + ((lyA a ((p.toNat : Nat) : Int) a.1.1.1).1 + 1) = _
          rw [show ((p.toNat : Nat) : Int) = p by omega]
        refine r_iadd dX8_count_73 ?_
        refine r_istore_n dX8_count_74 (by decide) ?_
        dsimp only [lset]
        refine r_iinc dX8_count_75 rfl (by decide) ?_
        dsimp only [lset]
        refine r_goto (tgt := 51) dX8_count_78 (by decide) ?_
        exact ih _ (p + 1) I5 (by omega) (by omega) hM5 (fun x j h => (hk5 x j (by omega) (by omega)).trans (g4 x j h)) (by rw [hst, g5])
  refine CC_of (own := RX8) (ini := false) (by decide +kernel) rfl (fun h => absurd h (by decide)) (Nat.le_of_ble_eq_true rfl) ?_
  show WW cX8_count RX8 4 (some .int) false 8 0 0 (PM (aCount a w, a) I R) 0 0 0 [some (.inr (some 290)), some (.inl (w)), none, none] [] (298, ShF, I, R)
  refine r_iload_n dX8_count_0 rfl ?_
  rcases (show w = 0 ∨ w = 1 ∨ w = 2 ∨ w = 3 ∨ w = 4 ∨ w = 5 ∨ (w < 0 ∨ 5 < w) by omega) with rfl | rfl | rfl | rfl | rfl | rfl | hww
  · refine r_tsIn (off := 39) (tgt := 40) dX8_count_1 (by decide) (by decide) rfl (by decide) ?_
    refine r_aload_n dX8_count_40 rfl ?_
    refine q_getR fl_X8_7 dX8_count_41 sf_290 (ro_290_0 hRO) ?_
    refine r_iload_n dX8_count_44 rfl ?_
    refine q_iald dX8_count_45 sf_291 (by omega) ?_
    refine q_iretZ dX8_count_46 rfl ?_
    refine ⟨?_, hM, fun _ _ _ => rfl⟩
    first
      | exact hS.1
      | exact hS.2.1
      | exact hS.2.2.1
  · refine r_tsIn (off := 39) (tgt := 40) dX8_count_1 (by decide) (by decide) rfl (by decide) ?_
    refine r_aload_n dX8_count_40 rfl ?_
    refine q_getR fl_X8_7 dX8_count_41 sf_290 (ro_290_0 hRO) ?_
    refine r_iload_n dX8_count_44 rfl ?_
    refine q_iald dX8_count_45 sf_291 (by omega) ?_
    refine q_iretZ dX8_count_46 rfl ?_
    refine ⟨?_, hM, fun _ _ _ => rfl⟩
    first
      | exact hS.1
      | exact hS.2.1
      | exact hS.2.2.1
  · refine r_tsIn (off := 39) (tgt := 40) dX8_count_1 (by decide) (by decide) rfl (by decide) ?_
    refine r_aload_n dX8_count_40 rfl ?_
    refine q_getR fl_X8_7 dX8_count_41 sf_290 (ro_290_0 hRO) ?_
    refine r_iload_n dX8_count_44 rfl ?_
    refine q_iald dX8_count_45 sf_291 (by omega) ?_
    refine q_iretZ dX8_count_46 rfl ?_
    refine ⟨?_, hM, fun _ _ _ => rfl⟩
    first
      | exact hS.1
      | exact hS.2.1
      | exact hS.2.2.1
  · refine r_tsIn (off := 46) (tgt := 47) dX8_count_1 (by decide) (by decide) rfl (by decide) ?_
    refine r_iconst dX8_count_47 ?_
    refine r_istore_n dX8_count_48 (by decide) ?_
    dsimp only [lset]
    refine r_iconst dX8_count_49 ?_
    refine r_istore_n dX8_count_50 (by decide) ?_
    dsimp only [lset]
    exact hloop 9 0 0 I (by omega) (by omega) hM (fun _ _ _ => rfl) rfl
  · refine r_tsIn (off := 82) (tgt := 83) dX8_count_1 (by decide) (by decide) rfl (by decide) ?_
    refine r_aload_n dX8_count_83 rfl ?_
    refine q_getI fl_X8_66 dX8_count_84 sf_290 ?_
    refine q_iretZ dX8_count_87 rfl ?_
    refine ⟨?_, hM, fun _ _ _ => rfl⟩
    exact hM.2.2.2.2.1
  · refine r_tsIn (off := 87) (tgt := 88) dX8_count_1 (by decide) (by decide) rfl (by decide) ?_
    refine r_aload_n dX8_count_88 rfl ?_
    refine q_getI fl_X8_32 dX8_count_89 sf_290 ?_
    refine q_iretZ dX8_count_92 rfl ?_
    refine ⟨?_, hM, fun _ _ _ => rfl⟩
    exact hM.2.2.1
  · refine r_tsOut (tgt := 93) dX8_count_1 hw hww (by decide) ?_
    refine r_iconst dX8_count_93 ?_
    refine q_iretZ dX8_count_94 rfl ?_
    refine ⟨?_, hM, fun _ _ _ => rfl⟩
    show -1 = aCount a w
    unfold aCount
    rw [if_neg (by omega), if_neg (by omega), if_neg (by omega), if_neg (by omega), if_neg (by omega), if_neg (by omega)]
set_option maxHeartbeats 4000000 in
set_option maxRecDepth 100000 in
theorem m_cell (I : Mem) (R : RMem) (hRO : RefOk R) (a : AS) (hM : MI I a) (p : Int) (hp : -2147483648 ≤ p ∧ p ≤ 2147483647) (r : Int) (hr : -2147483648 ≤ r ∧ r ≤ 2147483647) (q : Int) (hq : -2147483648 ≤ q ∧ q ≤ 2147483647) : CC 8 0 0 yX8_cell cX8_cell 4 (some .int) [.inr (some 290), .inl (p), .inl (r), .inl (q)] (298, ShF, I, R) (PM (aCell a p r q, a) I R) := by
  have hA := hM.1
  have hW := hA.1
  have hW1 := hW.1
  have hW2 := hW.2.1
  have hW3 := hW.2.2.1
  have hS := hM.2.1
  refine CC_of (own := RX8) (ini := false) (by decide +kernel) rfl (fun h => absurd h (by decide)) (Nat.le_of_ble_eq_true rfl) ?_
  show WW cX8_cell RX8 4 (some .int) false 8 0 0 (PM (aCell a p r q, a) I R) 0 0 0 [some (.inr (some 290)), some (.inl (p)), some (.inl (r)), some (.inl (q))] [] (298, ShF, I, R)
  refine r_aload_n dX8_cell_0 rfl ?_
  refine r_iload_n dX8_cell_1 rfl ?_
  refine q_callVF lk_X8_96 dX8_cell_2 (m_isParagraph I R hRO a.1.1.2.2 hS.2.2.1 hW3 p hp) (by decide) sf_290 rfl rfl (Nat.le_of_ble_eq_true rfl) (by decide) ?_
  refine q_ifeqB (tgt := 28) dX8_cell_5 (by decide) (fun h5 => ?_) (fun h5 => ?_)
  · refine r_iconst dX8_cell_28 ?_
    refine q_iretZ dX8_cell_29 rfl ?_
    refine ⟨?_, hM, fun _ _ _ => rfl⟩
    show -1 = aCell a p r q
    unfold aCell
    rw [if_neg (by omega)]
  · refine r_iload_n dX8_cell_8 rfl ?_
    refine r_iflt (tgt := 28) dX8_cell_9 (by decide) (by omega) (fun h9 => ?_) (fun h9 => ?_)
    · refine r_iconst dX8_cell_28 ?_
      refine q_iretZ dX8_cell_29 rfl ?_
      refine ⟨?_, hM, fun _ _ _ => rfl⟩
      show -1 = aCell a p r q
      unfold aCell
      rw [if_neg (by omega)]
    · refine r_iload_n dX8_cell_12 rfl ?_
      refine r_iconst dX8_cell_13 ?_
      refine r_aload_n dX8_cell_14 rfl ?_
      refine q_getR fl_X8_7 dX8_cell_15 sf_290 (ro_290_0 hRO) ?_
      refine r_iconst dX8_cell_18 ?_
      refine q_iald dX8_cell_19 sf_291 (by omega) ?_
      rw [hS.1]
      refine r_iconst dX8_cell_20 ?_
      refine r_isub dX8_cell_21 ?_
      refine q_callSF lk_X8_36 dX8_cell_22 (c_in I R q 0 (a.1.1.1 - 1) hq (by decide) (by omega)) (by decide) rfl rfl (Nat.le_of_ble_eq_true rfl) (by decide) ?_
      refine q_ifneB (tgt := 30) dX8_cell_25 (by decide) (fun h25 => ?_) (fun h25 => ?_)
      · refine r_iload_n dX8_cell_30 rfl ?_
        refine r_aload_n dX8_cell_31 rfl ?_
        refine r_iload_n dX8_cell_32 rfl ?_
        refine r_aload_n dX8_cell_33 rfl ?_
        refine q_getR fl_X8_7 dX8_cell_34 sf_290 (ro_290_0 hRO) ?_
        refine r_iconst dX8_cell_37 ?_
        refine q_iald dX8_cell_38 sf_291 (by omega) ?_
        rw [hS.1]
        refine q_callVZ lk_X8_187 dX8_cell_39 (m_lays I R hRO a hM p a.1.1.1 (by omega) (by omega)) (by decide) sf_290 rfl rfl (Nat.le_of_ble_eq_true rfl) (by decide) (fun z5 I5 h5 => ?_)
        obtain ⟨hz5, hB5, hF5, hN5, hW5, hk5⟩ := h5
        subst hz5
        have hM5 : MI I5 a := hM.scr (fun x j h => hk5 x j (by omega) (by omega))
        have hinv : Inv a.1.1.1 (lyA a p a.1.1.1) 80 80 := layS_inv (by omega) hW2 (hW.2.2.2.1 (a.1.2.2 p.toNat).1.toNat (by have := (hW.2.2.2.2 p.toNat (by omega)).1; omega)) (hW.2.2.2.2 p.toNat (by omega))
        have hrow := hinv.1
        refine r_icmpge (tgt := 59) dX8_cell_42 (by decide) (by omega) (by omega) (fun h42 => ?_) (fun h42 => ?_)
        · refine r_bipush dX8_cell_59 (by decide) ?_
          refine q_iretZ dX8_cell_61 rfl ?_
          first
            | (refine ⟨?_, hM5, fun x j h => hk5 x j (by omega) (by omega)⟩
               show _ = aCell a p r q
               unfold aCell
               rw [if_pos (by omega), if_neg (by omega)])
            | (refine ⟨?_, hM5, fun x j h => hk5 x j (by omega) (by omega)⟩
               show _ = aCell a p r q
               unfold aCell
               have hb5 := (hB5 r q (by omega) (by omega) (by omega) (by omega)).2
               dsimp only at hb5
               have hmk := mkB_full (g := (yOf a p).2.2) (q := q) (by omega)
               rw [if_pos (show (0 ≤ p ∧ p ≤ a.1.1.2.2 - 1) ∧ 0 ≤ r ∧ (0 ≤ q ∧ q ≤ a.1.1.1 - 1) by omega), if_pos (show r < (lyA a p a.1.1.1).1 + 1 by omega)]
               by_cases hp9 : pcAt (lyA a p a.1.1.1).2.2.2.1 r q (lyA a p a.1.1.1).2.2.1.toNat = -1
               · have hfw := free_wh (v := (a.1.2.2 p.toNat)) hp9
                 rw [if_pos hp9]
                 by_cases hb9 : 1 ≤ q ∧ 17 ≤ (yOf a p).2.2 q
                 · rw [if_pos hb9] at hmk ⊢
                   rw [if_pos ⟨hfw.1, hmk⟩] at hb5
                   exact hb5
                 · rw [if_neg hb9] at hmk ⊢
                   rw [if_neg (fun z => by have := z.2; omega), hfw.2] at hb5
                   exact hb5
               · have hw9 : whG (lyA a p a.1.1.1) r q ≠ 0 := by
                   unfold whG
                   rw [if_neg hp9]
                   split <;> decide
                 rw [if_neg hp9]
                 rw [if_neg (fun z => hw9 z.1)] at hb5
                 exact hb5)
        · refine r_aload_n dX8_cell_45 rfl ?_
          refine q_getR fl_X8_23 dX8_cell_46 sf_290 (ro_290_8 hRO) ?_
          refine r_bipush dX8_cell_49 (by decide) ?_
          refine r_iload_n dX8_cell_51 rfl ?_
          refine r_imul dX8_cell_52 ?_
          refine r_iload_n dX8_cell_53 rfl ?_
          refine r_iadd dX8_cell_54 ?_
          refine q_bald dX8_cell_55 sf_295 (by omega) ?_
          refine r_goto (tgt := 61) dX8_cell_56 (by decide) ?_
          refine q_iretZ dX8_cell_61 rfl ?_
          first
            | (refine ⟨?_, hM5, fun x j h => hk5 x j (by omega) (by omega)⟩
               show _ = aCell a p r q
               unfold aCell
               rw [if_pos (by omega), if_neg (by omega)])
            | (refine ⟨?_, hM5, fun x j h => hk5 x j (by omega) (by omega)⟩
               show _ = aCell a p r q
               unfold aCell
               have hb5 := (hB5 r q (by omega) (by omega) (by omega) (by omega)).2
               dsimp only at hb5
               have hmk := mkB_full (g := (yOf a p).2.2) (q := q) (by omega)
               rw [if_pos (show (0 ≤ p ∧ p ≤ a.1.1.2.2 - 1) ∧ 0 ≤ r ∧ (0 ≤ q ∧ q ≤ a.1.1.1 - 1) by omega), if_pos (show r < (lyA a p a.1.1.1).1 + 1 by omega)]
               by_cases hp9 : pcAt (lyA a p a.1.1.1).2.2.2.1 r q (lyA a p a.1.1.1).2.2.1.toNat = -1
               · have hfw := free_wh (v := (a.1.2.2 p.toNat)) hp9
                 rw [if_pos hp9]
                 by_cases hb9 : 1 ≤ q ∧ 17 ≤ (yOf a p).2.2 q
                 · rw [if_pos hb9] at hmk ⊢
                   rw [if_pos ⟨hfw.1, hmk⟩] at hb5
                   exact hb5
                 · rw [if_neg hb9] at hmk ⊢
                   rw [if_neg (fun z => by have := z.2; omega), hfw.2] at hb5
                   exact hb5
               · have hw9 : whG (lyA a p a.1.1.1) r q ≠ 0 := by
                   unfold whG
                   rw [if_neg hp9]
                   split <;> decide
                 rw [if_neg hp9]
                 rw [if_neg (fun z => hw9 z.1)] at hb5
                 exact hb5)
      · refine r_iconst dX8_cell_28 ?_
        refine q_iretZ dX8_cell_29 rfl ?_
        refine ⟨?_, hM, fun _ _ _ => rfl⟩
        show -1 = aCell a p r q
        unfold aCell
        rw [if_neg (by omega)]
set_option maxHeartbeats 4000000 in
set_option maxRecDepth 100000 in
theorem m_holds (I : Mem) (R : RMem) (hRO : RefOk R) (a : AS) (hM : MI I a) (p : Int) (hp : -2147483648 ≤ p ∧ p ≤ 2147483647) (w : Int) (hw : -2147483648 ≤ w ∧ w ≤ 2147483647) : CC 8 0 0 yX8_holds cX8_holds 8 (some .int) [.inr (some 290), .inl (p), .inl (w)] (298, ShF, I, R) (PM (aHolds a p w, a) I R) := by
  have hA := hM.1
  have hW := hA.1
  have hW1 := hW.1
  have hW2 := hW.2.1
  have hW3 := hW.2.2.1
  have hS := hM.2.1
  have hwn : 0 ≤ wnt w ∧ wnt w ≤ 3 := by
    unfold wnt
    (repeat' split) <;> omega
  have hin : ∀ (n : Nat) (k s row : Int) (I5 : Mem), a.1.1.1 < k + n → (0 ≤ k ∧ k ≤ a.1.1.1) → (0 ≤ row ∧ row ≤ (lyA a p a.1.1.1).1 ∧ (lyA a p a.1.1.1).1 ≤ 80) → I5 290 14 = a.1.1.1 → (∀ r q : Int, 0 ≤ r → r ≤ (lyA a p a.1.1.1).1 → 0 ≤ q → q < a.1.1.1 → I5 296 (80 * r + q) = bcd (lyA a p a.1.1.1) (yOf a p).2.2 r q) → s = s2 (bIs (lyA a p a.1.1.1) (yOf a p).2.2 (wnt w)) a.1.1.1.toNat (row).toNat + sm ((bIs (lyA a p a.1.1.1) (yOf a p).2.2 (wnt w)) row) k.toNat → (∀ (s1 : Int) (u : Option MV), s1 = s2 (bIs (lyA a p a.1.1.1) (yOf a p).2.2 (wnt w)) a.1.1.1.toNat (row + 1).toNat → WW cX8_holds RX8 8 (some .int) false 8 0 0 (PM (aHolds a p w, a) I R) 0 0 66 [some (.inr (some 290)), some (.inl (p)), some (.inl (w)), some (.inl (wnt w)), some (.inl ((lyA a p a.1.1.1).1 + 1)), some (.inl (s1)), some (.inl (row + 1)), u] [] (298, ShF, I5, R)) → WW cX8_holds RX8 8 (some .int) false 8 0 0 (PM (aHolds a p w, a) I R) 0 0 76 [some (.inr (some 290)), some (.inl (p)), some (.inl (w)), some (.inl (wnt w)), some (.inl ((lyA a p a.1.1.1).1 + 1)), some (.inl (s)), some (.inl (row)), some (.inl (k))] [] (298, ShF, I5, R) := by
    intro n
    induction n with
    | zero => intros; exfalso; omega
    | succ n ih =>
      intro k s row I5 g1 g2 g3 g4 g5 g6 g7
      refine r_iload dX8_holds_76 rfl ?_
      refine r_aload_n dX8_holds_78 rfl ?_
      refine q_getI fl_X8_110 dX8_holds_79 sf_290 ?_
      rw [g4]
      refine r_icmpge (tgt := 118) dX8_holds_82 (by decide) (by omega) (by omega) (fun h82 => ?_) (fun h82 => ?_)
      · refine r_iinc dX8_holds_118 rfl (by decide) ?_
        dsimp only [lset]
        refine r_goto (tgt := 66) dX8_holds_121 (by decide) ?_
        refine g7 s _ ?_
        rw [g6, show k = a.1.1.1 by omega, show (row + 1).toNat = row.toNat + 1 by omega]
        show s2 (bIs (lyA a p a.1.1.1) (yOf a p).2.2 (wnt w)) a.1.1.1.toNat row.toNat + sm ((bIs (lyA a p a.1.1.1) (yOf a p).2.2 (wnt w)) row) a.1.1.1.toNat = s2 (bIs (lyA a p a.1.1.1) (yOf a p).2.2 (wnt w)) a.1.1.1.toNat row.toNat + sm ((bIs (lyA a p a.1.1.1) (yOf a p).2.2 (wnt w)) ((row.toNat : Nat) : Int)) a.1.1.1.toNat
        rw [show ((row.toNat : Nat) : Int) = row by omega]
      · refine r_iload dX8_holds_85 rfl ?_
        refine r_aload_n dX8_holds_87 rfl ?_
        refine q_getR fl_X8_26 dX8_holds_88 sf_290 (ro_290_9 hRO) ?_
        refine r_bipush dX8_holds_91 (by decide) ?_
        refine r_iload dX8_holds_93 rfl ?_
        refine r_imul dX8_holds_95 ?_
        refine r_iload dX8_holds_96 rfl ?_
        refine r_iadd dX8_holds_98 ?_
        have hb1 := g5 row k (by omega) (by omega) (by omega) (by omega)
        have hb2 := bcd_in (lyA a p a.1.1.1) (yOf a p).2.2 row k
        have hst : sm ((bIs (lyA a p a.1.1.1) (yOf a p).2.2 (wnt w)) row) (k + 1).toNat = sm ((bIs (lyA a p a.1.1.1) (yOf a p).2.2 (wnt w)) row) k.toNat + (if bcd (lyA a p a.1.1.1) (yOf a p).2.2 row k = wnt w then 1 else 0) := by
          rw [show (k + 1).toNat = k.toNat + 1 by omega]
          show sm ((bIs (lyA a p a.1.1.1) (yOf a p).2.2 (wnt w)) row) k.toNat + (if bcd (lyA a p a.1.1.1) (yOf a p).2.2 row ((k.toNat : Nat) : Int) = wnt w then 1 else 0) = _
          rw [show ((k.toNat : Nat) : Int) = k by omega]
        refine q_bald dX8_holds_99 sf_296 (by omega) ?_
        rw [hb1]
        refine r_iload_n dX8_holds_100 rfl ?_
        refine r_icmpne (tgt := 108) dX8_holds_101 (by decide) (by omega) (by omega) (fun h101 => ?_) (fun h101 => ?_)
        · rw [if_neg h101] at hst
          refine r_iconst dX8_holds_108 ?_
          refine r_iadd dX8_holds_109 ?_
          refine r_istore dX8_holds_110 (by decide) ?_
          dsimp only [lset]
          refine r_iinc dX8_holds_112 rfl (by decide) ?_
          dsimp only [lset]
          refine r_goto (tgt := 76) dX8_holds_115 (by decide) ?_
          exact ih (k + 1) _ row I5 (by omega) (by omega) g3 g4 g5 (by omega) g7
        · rw [if_pos h101] at hst
          refine r_iconst dX8_holds_104 ?_
          refine r_goto (tgt := 109) dX8_holds_105 (by decide) ?_
          refine r_iadd dX8_holds_109 ?_
          refine r_istore dX8_holds_110 (by decide) ?_
          dsimp only [lset]
          refine r_iinc dX8_holds_112 rfl (by decide) ?_
          dsimp only [lset]
          refine r_goto (tgt := 76) dX8_holds_115 (by decide) ?_
          exact ih (k + 1) _ row I5 (by omega) (by omega) g3 g4 g5 (by omega) g7
  have hout : ∀ (n : Nat) (row s : Int) (I5 : Mem) (u : Option MV), (lyA a p a.1.1.1).1 + 1 < row + n → (0 ≤ row ∧ row ≤ (lyA a p a.1.1.1).1 + 1 ∧ (0 ≤ (lyA a p a.1.1.1).1 ∧ (lyA a p a.1.1.1).1 ≤ 80)) → I5 290 14 = a.1.1.1 → (∀ r q : Int, 0 ≤ r → r ≤ (lyA a p a.1.1.1).1 → 0 ≤ q → q < a.1.1.1 → I5 296 (80 * r + q) = bcd (lyA a p a.1.1.1) (yOf a p).2.2 r q) → s = s2 (bIs (lyA a p a.1.1.1) (yOf a p).2.2 (wnt w)) a.1.1.1.toNat (row).toNat → s2 (bIs (lyA a p a.1.1.1) (yOf a p).2.2 (wnt w)) a.1.1.1.toNat ((lyA a p a.1.1.1).1 + 1).toNat = aHolds a p w → MI I5 a → (∀ (x : Nat) (j : Int), x < 290 → I5 x j = I x j) → WW cX8_holds RX8 8 (some .int) false 8 0 0 (PM (aHolds a p w, a) I R) 0 0 66 [some (.inr (some 290)), some (.inl (p)), some (.inl (w)), some (.inl (wnt w)), some (.inl ((lyA a p a.1.1.1).1 + 1)), some (.inl (s)), some (.inl (row)), u] [] (298, ShF, I5, R) := by
    intro n
    induction n with
    | zero => intros; exfalso; omega
    | succ n ih =>
      intro row s I5 u g1 g2 g3 g4 g5 g6 g7 g8
      refine r_iload dX8_holds_66 rfl ?_
      refine r_iload dX8_holds_68 rfl ?_
      refine r_icmpge (tgt := 124) dX8_holds_70 (by decide) (by omega) (by omega) (fun h70 => ?_) (fun h70 => ?_)
      · refine r_iload dX8_holds_124 rfl ?_
        refine q_iretZ dX8_holds_126 rfl ?_
        refine ⟨?_, g7, g8⟩
        show s = aHolds a p w
        rw [g5, ← g6, show row = (lyA a p a.1.1.1).1 + 1 by omega]
      · refine r_iconst dX8_holds_73 ?_
        refine r_istore dX8_holds_74 (by decide) ?_
        dsimp only [lset]
        exact hin (a.1.1.1 + 1).toNat 0 s row I5 (by omega) (by omega) (by omega) g3 g4 (by rw [g5]; exact (Int.add_zero _).symm) (fun s1 u1 h1 => ih (row + 1) s1 I5 u1 (by omega) (by omega) g3 g4 h1 g6 g7 g8)
  have htl : (0 ≤ p ∧ p ≤ a.1.1.2.2 - 1) → (0 ≤ w ∧ w ≤ 3) → WW cX8_holds RX8 8 (some .int) false 8 0 0 (PM (aHolds a p w, a) I R) 0 0 47 [some (.inr (some 290)), some (.inl (p)), some (.inl (w)), some (.inl (wnt w)), none, none, none, none] [] (298, ShF, I, R) := by
    intro hp9 hw9
    refine r_aload_n dX8_holds_47 rfl ?_
    refine r_iload_n dX8_holds_48 rfl ?_
    refine r_aload_n dX8_holds_49 rfl ?_
    refine q_getR fl_X8_7 dX8_holds_50 sf_290 (ro_290_0 hRO) ?_
    refine r_iconst dX8_holds_53 ?_
    refine q_iald dX8_holds_54 sf_291 (by omega) ?_
    rw [hS.1]
    refine q_callVZ lk_X8_187 dX8_holds_55 (m_lays I R hRO a hM p a.1.1.1 (by omega) (by omega)) (by decide) sf_290 rfl rfl (Nat.le_of_ble_eq_true rfl) (by decide) (fun z5 I5 h5 => ?_)
    obtain ⟨hz5, hB5, hF5, hN5, hW5, hk5⟩ := h5
    subst hz5
    have hM5 : MI I5 a := hM.scr (fun x j h => hk5 x j (by omega) (by omega))
    have hinv : Inv a.1.1.1 (lyA a p a.1.1.1) 80 80 := layS_inv (by omega) hW2 (hW.2.2.2.1 (a.1.2.2 p.toNat).1.toNat (by have := (hW.2.2.2.2 p.toNat (by omega)).1; omega)) (hW.2.2.2.2 p.toNat (by omega))
    have hrow := hinv.1
    refine r_istore dX8_holds_58 (by decide) ?_
    dsimp only [lset]
    refine r_iconst dX8_holds_60 ?_
    refine r_istore dX8_holds_61 (by decide) ?_
    dsimp only [lset]
    refine r_iconst dX8_holds_63 ?_
    refine r_istore dX8_holds_64 (by decide) ?_
    dsimp only [lset]
    refine hout (((lyA a p a.1.1.1).1 + 2).toNat) 0 0 I5 _ (by omega) (by omega) hW5 (fun r q r1 r2 q1 q2 => (hB5 r q r1 r2 q1 q2).1) ?_ ?_ hM5 (fun x j h => hk5 x j (by omega) (by omega))
    · rfl
    · rw [bIs_all a p hinv hW1 (by omega)]
      unfold aHolds
      rw [if_pos (by omega)]
  refine CC_of (own := RX8) (ini := false) (by decide +kernel) rfl (fun h => absurd h (by decide)) (Nat.le_of_ble_eq_true rfl) ?_
  show WW cX8_holds RX8 8 (some .int) false 8 0 0 (PM (aHolds a p w, a) I R) 0 0 0 [some (.inr (some 290)), some (.inl (p)), some (.inl (w)), none, none, none, none, none] [] (298, ShF, I, R)
  refine r_aload_n dX8_holds_0 rfl ?_
  refine r_iload_n dX8_holds_1 rfl ?_
  refine q_callVF lk_X8_96 dX8_holds_2 (m_isParagraph I R hRO a.1.1.2.2 hS.2.2.1 hW3 p hp) (by decide) sf_290 rfl rfl (Nat.le_of_ble_eq_true rfl) (by decide) ?_
  refine q_ifeqB (tgt := 17) dX8_holds_5 (by decide) (fun h5 => ?_) (fun h5 => ?_)
  · refine r_iconst dX8_holds_17 ?_
    refine q_iretZ dX8_holds_18 rfl ?_
    refine ⟨?_, hM, fun _ _ _ => rfl⟩
    show -1 = aHolds a p w
    unfold aHolds
    rw [if_neg (by omega)]
  · refine r_iload_n dX8_holds_8 rfl ?_
    refine r_iconst dX8_holds_9 ?_
    refine r_iconst dX8_holds_10 ?_
    refine q_callSF lk_X8_36 dX8_holds_11 (c_in I R w 0 3 hw (by decide) (by decide)) (by decide) rfl rfl (Nat.le_of_ble_eq_true rfl) (by decide) ?_
    refine q_ifneB (tgt := 19) dX8_holds_14 (by decide) (fun h14 => ?_) (fun h14 => ?_)
    · refine r_iload_n dX8_holds_19 rfl ?_
      refine r_ifne (tgt := 27) dX8_holds_20 (by decide) (by omega) (fun h20 => ?_) (fun h20 => ?_)
      · refine r_iload_n dX8_holds_27 rfl ?_
        refine r_iconst dX8_holds_28 ?_
        refine r_icmpne (tgt := 36) dX8_holds_29 (by decide) (by omega) (by omega) (fun h29 => ?_) (fun h29 => ?_)
        · refine r_iload_n dX8_holds_36 rfl ?_
          refine r_iconst dX8_holds_37 ?_
          refine r_icmpne (tgt := 45) dX8_holds_38 (by decide) (by omega) (by omega) (fun h38 => ?_) (fun h38 => ?_)
          · refine r_iconst dX8_holds_45 ?_
            refine r_istore_n dX8_holds_46 (by decide) ?_
            dsimp only [lset]
            have hwv : wnt w = 0 := by
              unfold wnt
              first
                | (rw [if_pos (by omega)])
                | (rw [if_neg (by omega), if_pos (by omega)])
                | (rw [if_neg (by omega), if_neg (by omega), if_pos (by omega)])
                | (rw [if_neg (by omega), if_neg (by omega), if_neg (by omega)])
            have ht := htl (by omega) (by omega)
            rw [hwv] at ht
            exact ht
          · refine r_iconst dX8_holds_41 ?_
            refine r_goto (tgt := 46) dX8_holds_42 (by decide) ?_
            refine r_istore_n dX8_holds_46 (by decide) ?_
            dsimp only [lset]
            have hwv : wnt w = 3 := by
              unfold wnt
              first
                | (rw [if_pos (by omega)])
                | (rw [if_neg (by omega), if_pos (by omega)])
                | (rw [if_neg (by omega), if_neg (by omega), if_pos (by omega)])
                | (rw [if_neg (by omega), if_neg (by omega), if_neg (by omega)])
            have ht := htl (by omega) (by omega)
            rw [hwv] at ht
            exact ht
        · refine r_iconst dX8_holds_32 ?_
          refine r_goto (tgt := 46) dX8_holds_33 (by decide) ?_
          refine r_istore_n dX8_holds_46 (by decide) ?_
          dsimp only [lset]
          have hwv : wnt w = 2 := by
            unfold wnt
            first
              | (rw [if_pos (by omega)])
              | (rw [if_neg (by omega), if_pos (by omega)])
              | (rw [if_neg (by omega), if_neg (by omega), if_pos (by omega)])
              | (rw [if_neg (by omega), if_neg (by omega), if_neg (by omega)])
          have ht := htl (by omega) (by omega)
          rw [hwv] at ht
          exact ht
      · refine r_iconst dX8_holds_23 ?_
        refine r_goto (tgt := 46) dX8_holds_24 (by decide) ?_
        refine r_istore_n dX8_holds_46 (by decide) ?_
        dsimp only [lset]
        have hwv : wnt w = 1 := by
          unfold wnt
          first
            | (rw [if_pos (by omega)])
            | (rw [if_neg (by omega), if_pos (by omega)])
            | (rw [if_neg (by omega), if_neg (by omega), if_pos (by omega)])
            | (rw [if_neg (by omega), if_neg (by omega), if_neg (by omega)])
        have ht := htl (by omega) (by omega)
        rw [hwv] at ht
        exact ht
    · refine r_iconst dX8_holds_17 ?_
      refine q_iretZ dX8_holds_18 rfl ?_
      refine ⟨?_, hM, fun _ _ _ => rfl⟩
      show -1 = aHolds a p w
      unfold aHolds
      rw [if_neg (by omega)]
