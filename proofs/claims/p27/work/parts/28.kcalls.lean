/-! calls that tell of lines: the class -/
theorem ro46i {R : RMem} (h : RefOk R) {i : Int} (hi : 0 ≤ i ∧ i < 81) : R 46 i = some (47 + i.toNat) := by
  have := ro_46 h (i := i.toNat) (by omega)
  rw [show ((i.toNat : Nat) : Int) = i by omega] at this
  exact this
set_option maxHeartbeats 4000000 in
set_option maxRecDepth 100000 in
theorem k_styleOf (I : Mem) (R : RMem) (π sg : Nat → Nat) (a : AS) (hI : CI I R π sg a) (hA : AbsOk a) (p : Int) (hp : 0 ≤ p ∧ p ≤ a.1.1.2.2 - 1)  : CC 0 0 0 yX7_styleOf cX7_styleOf 2 (some (.object "TabLines$Style")) [.inr (some 0), .inl (p)] (290, ShF, I, R) (PA (4 + 2 * (a.1.2.2 p.toNat).1.toNat) I R) := by
  have hRO := hI.1.1
  have hcols : I 1 0 = a.1.1.1 := hI.2.1.1
  have hdist : I 1 1 = a.1.1.2.1 := hI.2.1.2.1
  have hcnt : I 1 2 = a.1.1.2.2 := hI.2.1.2.2.1
  have hW := hA.1
  have hW1 := hW.1
  have hW2 := hW.2.1
  have hW3 := hW.2.2.1
  have hpar := rp0 hRO hI.1.2.1 (i := p) (by omega)
  have hpp := hpar.2.2
  have h9 := at0_p hI.2.1 (i := p) (by omega)
  have hwv := hW.2.2.2.2 p.toNat (by omega)
  have hs3 := hwv.1
  refine CC_of (own := RX7) (ini := false) (by decide +kernel) rfl (fun h => absurd h (by decide)) (Nat.le_of_ble_eq_true rfl) ?_
  show WW cX7_styleOf RX7 2 (some (.object "TabLines$Style")) false 0 0 0 (PA (4 + 2 * (a.1.2.2 p.toNat).1.toNat) I R) 0 0 0 [some (.inr (some 0)), some (.inl (p))] [] (290, ShF, I, R)
  refine r_aload_n dX7_styleOf_0 rfl ?_
  refine q_getR fl_X7_12 dX7_styleOf_1 sf_0 (ro_0_0 hRO) ?_
  refine q_getR fl_X7_56 dX7_styleOf_4 sf_1 (ro_1_3 hRO) ?_
  refine r_aload_n dX7_styleOf_7 rfl ?_
  refine q_getR fl_X7_12 dX7_styleOf_8 sf_0 (ro_0_0 hRO) ?_
  refine q_getR fl_X7_104 dX7_styleOf_11 sf_1 (ro_1_4 hRO) ?_
  refine r_iload_n dX7_styleOf_14 rfl ?_
  refine q_aald (t := 4) (by decide) dX7_styleOf_15 sf_3 (by omega) (rp0 hRO hI.1.2.1 (i := p) (by omega)).1 ?_
  refine q_getI fl_X7_108 dX7_styleOf_16 (rp0 hRO hI.1.2.1 (i := p) (by omega)).2.1.1 ?_
  rw [h9.1]
  refine q_aald (t := 3) (by decide) dX7_styleOf_19 sf_2 (by omega) (ry0 hRO (i := (a.1.2.2 p.toNat).1) (by omega)).1 ?_
  exact q_aretA dX7_styleOf_20 rfl
set_option maxHeartbeats 4000000 in
set_option maxRecDepth 100000 in
theorem k_layOut (I : Mem) (R : RMem) (π sg : Nat → Nat) (a : AS) (hI : CI I R π sg a) (hA : AbsOk a) (p : Int) (hp : 0 ≤ p ∧ p ≤ a.1.1.2.2 - 1) (c : Int) (hc : 20 ≤ c ∧ c ≤ 80) : CC 6 0 0 yX7_layOut cX7_layOut 3 none [.inr (some 0), .inl (p), .inl (c)] (290, ShF, I, R) (PW R (fun I1 => LI I1 (lyA a p c) (wdT (a.1.2.2 p.toNat)).2.2.1 ∧ TA (wdT (a.1.2.2 p.toNat)) I1 ∧ I1 34 3 = c ∧ ∀ (x : Nat) (j : Int), ¬ (34 ≤ x ∧ x ≤ 127) → I1 x j = I x j)) := by
  have hRO := hI.1.1
  have hcols : I 1 0 = a.1.1.1 := hI.2.1.1
  have hdist : I 1 1 = a.1.1.2.1 := hI.2.1.2.1
  have hcnt : I 1 2 = a.1.1.2.2 := hI.2.1.2.2.1
  have hW := hA.1
  have hW1 := hW.1
  have hW2 := hW.2.1
  have hW3 := hW.2.2.1
  have hpar := rp0 hRO hI.1.2.1 (i := p) (by omega)
  have hpp := hpar.2.2
  have h9 := at0_p hI.2.1 (i := p) (by omega)
  have hwv := hW.2.2.2.2 p.toNat (by omega)
  have hs3 := hwv.1
  have hys := at0_y hI.2.1 (i := (a.1.2.2 p.toNat).1) (by omega)
  have hwy := hW.2.2.2.1 (a.1.2.2 p.toNat).1.toNat (by omega)
  have hy2 : SV (I (5 + 2 * (a.1.2.2 p.toNat).1.toNat)) := SV.congr hys.2.2 hwy.2.2.1
  refine CC_of (own := RX7) (ini := false) (by decide +kernel) rfl (fun h => absurd h (by decide)) (Nat.le_of_ble_eq_true rfl) ?_
  show WW cX7_layOut RX7 3 none false 6 0 0 (PW R (fun I1 => LI I1 (lyA a p c) (wdT (a.1.2.2 p.toNat)).2.2.1 ∧ TA (wdT (a.1.2.2 p.toNat)) I1 ∧ I1 34 3 = c ∧ ∀ (x : Nat) (j : Int), ¬ (34 ≤ x ∧ x ≤ 127) → I1 x j = I x j)) 0 0 0 [some (.inr (some 0)), some (.inl (p)), some (.inl (c))] [] (290, ShF, I, R)
  refine r_aload_n dX7_layOut_0 rfl ?_
  refine q_getR fl_X7_34 dX7_layOut_1 sf_0 (ro_0_6 hRO) ?_
  refine r_aload_n dX7_layOut_4 rfl ?_
  refine q_getR fl_X7_12 dX7_layOut_5 sf_0 (ro_0_0 hRO) ?_
  refine q_getR fl_X7_104 dX7_layOut_8 sf_1 (ro_1_4 hRO) ?_
  refine r_iload_n dX7_layOut_11 rfl ?_
  refine q_aald (t := 4) (by decide) dX7_layOut_12 sf_3 (by omega) (rp0 hRO hI.1.2.1 (i := p) (by omega)).1 ?_
  refine r_aload_n dX7_layOut_13 rfl ?_
  refine r_iload_n dX7_layOut_14 rfl ?_
  refine q_callVA lk_X7_165 dX7_layOut_15 (k_styleOf I R π sg a hI hA p hp) (by decide) sf_0 rfl rfl (Nat.le_of_ble_eq_true rfl) (by decide) ?_
  refine r_iload_n dX7_layOut_18 rfl ?_
  refine r_aload_n dX7_layOut_19 rfl ?_
  refine q_getR fl_X7_12 dX7_layOut_20 sf_0 (ro_0_0 hRO) ?_
  refine q_getI fl_X7_49 dX7_layOut_23 sf_1 ?_
  rw [hdist]
  refine q_callVW lk_X7_205 dX7_layOut_26 (c_fill I R hRO c a.1.1.2.1 hc hW2 hpar.2.1 (by omega) (a.1.2.2 p.toNat) hwv h9 (ry0 hRO (i := (a.1.2.2 p.toNat).1) (by omega)).2 (by omega) (yOf a p) hwy hys) (by decide) sf_34 rfl rfl (Nat.le_of_ble_eq_true rfl) (by decide) (fun I1 hI1 => ?_)
  refine q_vretW dX7_layOut_29 rfl ?_
  exact hI1
set_option maxHeartbeats 4000000 in
set_option maxRecDepth 100000 in
theorem k_lines (I : Mem) (R : RMem) (π sg : Nat → Nat) (a : AS) (hI : CI I R π sg a) (hA : AbsOk a) (p : Int) (hp : -2147483648 ≤ p ∧ p ≤ 2147483647) : CC 7 0 0 yX7_lines cX7_lines 2 (some .int) [.inr (some 0), .inl (p)] (290, ShF, I, R) (PC (aLines a p, a) I) := by
  have hRO := hI.1.1
  have hcols : I 1 0 = a.1.1.1 := hI.2.1.1
  have hdist : I 1 1 = a.1.1.2.1 := hI.2.1.2.1
  have hcnt : I 1 2 = a.1.1.2.2 := hI.2.1.2.2.1
  have hW := hA.1
  have hW1 := hW.1
  have hW2 := hW.2.1
  have hW3 := hW.2.2.1
  refine CC_of (own := RX7) (ini := false) (by decide +kernel) rfl (fun h => absurd h (by decide)) (Nat.le_of_ble_eq_true rfl) ?_
  show WW cX7_lines RX7 2 (some .int) false 7 0 0 (PC (aLines a p, a) I) 0 0 0 [some (.inr (some 0)), some (.inl (p))] [] (290, ShF, I, R)
  refine r_aload_n dX7_lines_0 rfl ?_
  refine r_iload_n dX7_lines_1 rfl ?_
  refine q_callVF lk_X7_116 dX7_lines_2 (c_isParagraph I R hRO a.1.1.2.2 hcnt hW3 p hp) (by decide) sf_0 rfl rfl (Nat.le_of_ble_eq_true rfl) (by decide) ?_
  refine q_ifneB (tgt := 10) dX7_lines_5 (by decide) (fun h5 => ?_) (fun h5 => ?_)
  · refine r_aload_n dX7_lines_10 rfl ?_
    refine r_iload_n dX7_lines_11 rfl ?_
    refine r_aload_n dX7_lines_12 rfl ?_
    refine q_getR fl_X7_12 dX7_lines_13 sf_0 (ro_0_0 hRO) ?_
    refine q_getI fl_X7_45 dX7_lines_16 sf_1 ?_
    rw [hcols]
    refine q_callVW lk_X7_129 dX7_lines_19 (k_layOut I R π sg a hI hA p (by omega) a.1.1.1 (by omega)) (by decide) sf_0 rfl rfl (Nat.le_of_ble_eq_true rfl) (by decide) (fun I5 hI5 => ?_)
    obtain ⟨hL5, hT5, hW5, hk5⟩ := hI5
    have hI5 : CI I5 R π sg a := hI.bl (fun x j h => hk5 x j (by omega)) hA.2.1
    have hinv := layS_inv (W := a.1.1.1) (D := a.1.1.2.1) (y := yOf a p) (v := (a.1.2.2 p.toNat)) (by omega) hW2 (hW.2.2.2.1 (a.1.2.2 p.toNat).1.toNat (by have := (hW.2.2.2.2 p.toNat (by omega)).1; omega)) (hW.2.2.2.2 p.toNat (by omega))
    have hrow := hinv.1
    refine r_aload_n dX7_lines_22 rfl ?_
    refine q_getR fl_X7_34 dX7_lines_23 sf_0 (ro_0_6 hRO) ?_
    refine q_callVF lk_X7_133 dX7_lines_26 (c_lineCount I5 R hRO) (by decide) sf_34 rfl rfl (Nat.le_of_ble_eq_true rfl) (by decide) ?_
    rw [hL5.1]
    refine q_iretZR dX7_lines_29 rfl ?_
    refine ⟨?_, ⟨π, sg, hI5⟩, fun x j h => hk5 x j (by omega)⟩
    show _ = aLines a p
    unfold aLines
    rw [if_pos (by omega)]
  · refine r_iconst dX7_lines_8 ?_
    refine q_iretZR dX7_lines_9 rfl ?_
    refine ⟨?_, ⟨π, sg, hI⟩, fun _ _ _ => rfl⟩
    show -1 = aLines a p
    unfold aLines
    rw [if_neg (by omega)]
set_option maxHeartbeats 4000000 in
set_option maxRecDepth 100000 in
theorem k_linesWith (I : Mem) (R : RMem) (π sg : Nat → Nat) (a : AS) (hI : CI I R π sg a) (hA : AbsOk a) (p : Int) (hp : -2147483648 ≤ p ∧ p ≤ 2147483647) (c : Int) (hc : -2147483648 ≤ c ∧ c ≤ 2147483647) : CC 7 0 0 yX7_linesWith cX7_linesWith 3 (some .int) [.inr (some 0), .inl (p), .inl (c)] (290, ShF, I, R) (PC (aLinesWith a p c, a) I) := by
  have hRO := hI.1.1
  have hcols : I 1 0 = a.1.1.1 := hI.2.1.1
  have hdist : I 1 1 = a.1.1.2.1 := hI.2.1.2.1
  have hcnt : I 1 2 = a.1.1.2.2 := hI.2.1.2.2.1
  have hW := hA.1
  have hW1 := hW.1
  have hW2 := hW.2.1
  have hW3 := hW.2.2.1
  refine CC_of (own := RX7) (ini := false) (by decide +kernel) rfl (fun h => absurd h (by decide)) (Nat.le_of_ble_eq_true rfl) ?_
  show WW cX7_linesWith RX7 3 (some .int) false 7 0 0 (PC (aLinesWith a p c, a) I) 0 0 0 [some (.inr (some 0)), some (.inl (p)), some (.inl (c))] [] (290, ShF, I, R)
  refine r_aload_n dX7_linesWith_0 rfl ?_
  refine r_iload_n dX7_linesWith_1 rfl ?_
  refine q_callVF lk_X7_116 dX7_linesWith_2 (c_isParagraph I R hRO a.1.1.2.2 hcnt hW3 p hp) (by decide) sf_0 rfl rfl (Nat.le_of_ble_eq_true rfl) (by decide) ?_
  refine q_ifeqB (tgt := 19) dX7_linesWith_5 (by decide) (fun h5 => ?_) (fun h5 => ?_)
  · refine r_iconst dX7_linesWith_19 ?_
    refine q_iretZR dX7_linesWith_20 rfl ?_
    refine ⟨?_, ⟨π, sg, hI⟩, fun _ _ _ => rfl⟩
    show -1 = aLinesWith a p c
    unfold aLinesWith
    rw [if_neg (by omega)]
  · refine r_iload_n dX7_linesWith_8 rfl ?_
    refine r_bipush dX7_linesWith_9 (by decide) ?_
    refine r_bipush dX7_linesWith_11 (by decide) ?_
    refine q_callSF lk_X7_38 dX7_linesWith_13 (c_isWithin I R c 20 80 hc (by decide) (by decide)) (by decide) rfl rfl (Nat.le_of_ble_eq_true rfl) (by decide) ?_
    refine q_ifneB (tgt := 21) dX7_linesWith_16 (by decide) (fun h16 => ?_) (fun h16 => ?_)
    · refine r_aload_n dX7_linesWith_21 rfl ?_
      refine r_iload_n dX7_linesWith_22 rfl ?_
      refine r_iload_n dX7_linesWith_23 rfl ?_
      refine q_callVW lk_X7_129 dX7_linesWith_24 (k_layOut I R π sg a hI hA p (by omega) c (by omega)) (by decide) sf_0 rfl rfl (Nat.le_of_ble_eq_true rfl) (by decide) (fun I5 hI5 => ?_)
      obtain ⟨hL5, hT5, hW5, hk5⟩ := hI5
      have hI5 : CI I5 R π sg a := hI.bl (fun x j h => hk5 x j (by omega)) hA.2.1
      have hinv := layS_inv (W := c) (D := a.1.1.2.1) (y := yOf a p) (v := (a.1.2.2 p.toNat)) (by omega) hW2 (hW.2.2.2.1 (a.1.2.2 p.toNat).1.toNat (by have := (hW.2.2.2.2 p.toNat (by omega)).1; omega)) (hW.2.2.2.2 p.toNat (by omega))
      have hrow := hinv.1
      refine r_aload_n dX7_linesWith_27 rfl ?_
      refine q_getR fl_X7_34 dX7_linesWith_28 sf_0 (ro_0_6 hRO) ?_
      refine q_callVF lk_X7_133 dX7_linesWith_31 (c_lineCount I5 R hRO) (by decide) sf_34 rfl rfl (Nat.le_of_ble_eq_true rfl) (by decide) ?_
      rw [hL5.1]
      refine q_iretZR dX7_linesWith_34 rfl ?_
      refine ⟨?_, ⟨π, sg, hI5⟩, fun x j h => hk5 x j (by omega)⟩
      show _ = aLinesWith a p c
      unfold aLinesWith
      rw [if_pos (by omega)]
    · refine r_iconst dX7_linesWith_19 ?_
      refine q_iretZR dX7_linesWith_20 rfl ?_
      refine ⟨?_, ⟨π, sg, hI⟩, fun _ _ _ => rfl⟩
      show -1 = aLinesWith a p c
      unfold aLinesWith
      rw [if_neg (by omega)]
set_option maxHeartbeats 4000000 in
set_option maxRecDepth 100000 in
theorem k_leastColumns (I : Mem) (R : RMem) (π sg : Nat → Nat) (a : AS) (hI : CI I R π sg a) (hA : AbsOk a) (p : Int) (hp : -2147483648 ≤ p ∧ p ≤ 2147483647) (m : Int) (hm : -2147483648 ≤ m ∧ m ≤ 2147483647) : CC 7 0 0 yX7_leastColumns cX7_leastColumns 4 (some .int) [.inr (some 0), .inl (p), .inl (m)] (290, ShF, I, R) (PC (aLeast a p m, a) I) := by
  have hRO := hI.1.1
  have hcols : I 1 0 = a.1.1.1 := hI.2.1.1
  have hdist : I 1 1 = a.1.1.2.1 := hI.2.1.2.1
  have hcnt : I 1 2 = a.1.1.2.2 := hI.2.1.2.2.1
  have hW := hA.1
  have hW1 := hW.1
  have hW2 := hW.2.1
  have hW3 := hW.2.2.1
  have hloop : ∀ (n : Nat) (c : Int) (I2 : Mem), 81 < c + n → (20 ≤ c ∧ c ≤ 81) → CI I2 R π sg a → (∀ (x : Nat) (j : Int), 290 ≤ x → I2 x j = I x j) → aLeast a p m = lcG a p m (81 - c).toNat c → (0 ≤ p ∧ p ≤ a.1.1.2.2 - 1) → WW cX7_leastColumns RX7 4 (some .int) false 7 0 0 (PC (aLeast a p m, a) I) 0 0 23 [some (.inr (some 0)), some (.inl (p)), some (.inl (m)), some (.inl (c))] [] (290, ShF, I2, R) := by
    intro n
    induction n with
    | zero => intros; exfalso; omega
    | succ n ih =>
      intro c I2 g1 g2 g3 g4 g5 g6
      refine r_iload_n dX7_leastColumns_23 rfl ?_
      refine r_bipush dX7_leastColumns_24 (by decide) ?_
      refine r_icmpgt (tgt := 54) dX7_leastColumns_26 (by decide) (by omega) (by omega) (fun h26 => ?_) (fun h26 => ?_)
      · refine r_bipush dX7_leastColumns_54 (by decide) ?_
        refine q_iretZR dX7_leastColumns_56 rfl ?_
        refine ⟨?_, ⟨π, sg, g3⟩, g4⟩
        show -9 = aLeast a p m
        rw [g5, show (81 - c).toNat = 0 by omega]
        rfl
      · have hI2 := g3
        have hst : lcG a p m (81 - c).toNat c = if (lyA a p c).1 + 1 ≤ m then c else lcG a p m (81 - (c + 1)).toNat (c + 1) := by
          rw [show (81 - c).toNat = (81 - (c + 1)).toNat + 1 by omega]
          rfl
        refine r_aload_n dX7_leastColumns_29 rfl ?_
        refine r_iload_n dX7_leastColumns_30 rfl ?_
        refine r_iload_n dX7_leastColumns_31 rfl ?_
        refine q_callVW lk_X7_129 dX7_leastColumns_32 (k_layOut I2 R π sg a hI2 hA p (by omega) c (by omega)) (by decide) sf_0 rfl rfl (Nat.le_of_ble_eq_true rfl) (by decide) (fun I5 hI5 => ?_)
        obtain ⟨hL5, hT5, hW5, hk5⟩ := hI5
        have hI5 : CI I5 R π sg a := hI2.bl (fun x j h => hk5 x j (by omega)) hA.2.1
        have hinv := layS_inv (W := c) (D := a.1.1.2.1) (y := yOf a p) (v := (a.1.2.2 p.toNat)) (by omega) hW2 (hW.2.2.2.1 (a.1.2.2 p.toNat).1.toNat (by have := (hW.2.2.2.2 p.toNat (by omega)).1; omega)) (hW.2.2.2.2 p.toNat (by omega))
        have hrow := hinv.1
        refine r_aload_n dX7_leastColumns_35 rfl ?_
        refine q_getR fl_X7_34 dX7_leastColumns_36 sf_0 (ro_0_6 hRO) ?_
        refine q_callVF lk_X7_133 dX7_leastColumns_39 (c_lineCount I5 R hRO) (by decide) sf_34 rfl rfl (Nat.le_of_ble_eq_true rfl) (by decide) ?_
        rw [hL5.1]
        refine r_iload_n dX7_leastColumns_42 rfl ?_
        refine r_icmpgt (tgt := 48) dX7_leastColumns_43 (by decide) (by have : (lyA a p c).1 = (layS c a.1.1.2.1 (yOf a p) (a.1.2.2 p.toNat)).1 := rfl; omega) (by have : (lyA a p c).1 = (layS c a.1.1.2.1 (yOf a p) (a.1.2.2 p.toNat)).1 := rfl; omega) (fun h43 => ?_) (fun h43 => ?_)
        · refine r_iinc dX7_leastColumns_48 rfl (by decide) ?_
          dsimp only [lset]
          refine r_goto (tgt := 23) dX7_leastColumns_51 (by decide) ?_
          refine ih (c + 1) I5 (by omega) (by omega) hI5 (fun x j h => (hk5 x j (by omega)).trans (g4 x j h)) ?_ g6
          rw [g5, hst, if_neg (by omega)]
        · refine r_iload_n dX7_leastColumns_46 rfl ?_
          refine q_iretZR dX7_leastColumns_47 rfl ?_
          refine ⟨?_, ⟨π, sg, hI5⟩, fun x j h => (hk5 x j (by omega)).trans (g4 x j h)⟩
          show c = aLeast a p m
          rw [g5, hst, if_pos (by omega)]
  refine CC_of (own := RX7) (ini := false) (by decide +kernel) rfl (fun h => absurd h (by decide)) (Nat.le_of_ble_eq_true rfl) ?_
  show WW cX7_leastColumns RX7 4 (some .int) false 7 0 0 (PC (aLeast a p m, a) I) 0 0 0 [some (.inr (some 0)), some (.inl (p)), some (.inl (m)), none] [] (290, ShF, I, R)
  refine r_aload_n dX7_leastColumns_0 rfl ?_
  refine r_iload_n dX7_leastColumns_1 rfl ?_
  refine q_callVF lk_X7_116 dX7_leastColumns_2 (c_isParagraph I R hRO a.1.1.2.2 hcnt hW3 p hp) (by decide) sf_0 rfl rfl (Nat.le_of_ble_eq_true rfl) (by decide) ?_
  refine q_ifeqB (tgt := 18) dX7_leastColumns_5 (by decide) (fun h5 => ?_) (fun h5 => ?_)
  · refine r_iconst dX7_leastColumns_18 ?_
    refine q_iretZR dX7_leastColumns_19 rfl ?_
    refine ⟨?_, ⟨π, sg, hI⟩, fun _ _ _ => rfl⟩
    show -1 = aLeast a p m
    unfold aLeast
    rw [if_neg (by omega)]
  · refine r_iload_n dX7_leastColumns_8 rfl ?_
    refine r_iconst dX7_leastColumns_9 ?_
    refine r_bipush dX7_leastColumns_10 (by decide) ?_
    refine q_callSF lk_X7_38 dX7_leastColumns_12 (c_isWithin I R m 1 99 hm (by decide) (by decide)) (by decide) rfl rfl (Nat.le_of_ble_eq_true rfl) (by decide) ?_
    refine q_ifneB (tgt := 20) dX7_leastColumns_15 (by decide) (fun h15 => ?_) (fun h15 => ?_)
    · refine r_bipush dX7_leastColumns_20 (by decide) ?_
      refine r_istore_n dX7_leastColumns_22 (by decide) ?_
      dsimp only [lset]
      exact hloop 62 20 I (by omega) (by omega) hI (fun _ _ _ => rfl) (if_pos (by omega)) (by omega)
    · refine r_iconst dX7_leastColumns_18 ?_
      refine q_iretZR dX7_leastColumns_19 rfl ?_
      refine ⟨?_, ⟨π, sg, hI⟩, fun _ _ _ => rfl⟩
      show -1 = aLeast a p m
      unfold aLeast
      rw [if_neg (by omega)]
set_option maxHeartbeats 4000000 in
set_option maxRecDepth 100000 in
theorem k_field (I : Mem) (R : RMem) (π sg : Nat → Nat) (a : AS) (hI : CI I R π sg a) (hA : AbsOk a) (p : Int) (hp : -2147483648 ≤ p ∧ p ≤ 2147483647) (g : Int) (hg : -2147483648 ≤ g ∧ g ≤ 2147483647) (w : Int) (hw : -2147483648 ≤ w ∧ w ≤ 2147483647) : CC 7 0 0 yX7_field cX7_field 4 (some .int) [.inr (some 0), .inl (p), .inl (g), .inl (w)] (290, ShF, I, R) (PC (aField a p g w, a) I) := by
  have hRO := hI.1.1
  have hcols : I 1 0 = a.1.1.1 := hI.2.1.1
  have hdist : I 1 1 = a.1.1.2.1 := hI.2.1.2.1
  have hcnt : I 1 2 = a.1.1.2.2 := hI.2.1.2.2.1
  have hW := hA.1
  have hW1 := hW.1
  have hW2 := hW.2.1
  have hW3 := hW.2.2.1

  refine CC_of (own := RX7) (ini := false) (by decide +kernel) rfl (fun h => absurd h (by decide)) (Nat.le_of_ble_eq_true rfl) ?_
  show WW cX7_field RX7 4 (some .int) false 7 0 0 (PC (aField a p g w, a) I) 0 0 0 [some (.inr (some 0)), some (.inl (p)), some (.inl (g)), some (.inl (w))] [] (290, ShF, I, R)
  refine r_aload_n dX7_field_0 rfl ?_
  refine r_iload_n dX7_field_1 rfl ?_
  refine q_callVF lk_X7_116 dX7_field_2 (c_isParagraph I R hRO a.1.1.2.2 hcnt hW3 p hp) (by decide) sf_0 rfl rfl (Nat.le_of_ble_eq_true rfl) (by decide) ?_
  refine q_ifeqB (tgt := 21) dX7_field_5 (by decide) (fun h5 => ?_) (fun h5 => ?_)
  · refine r_iconst dX7_field_21 ?_
    refine q_iretZR dX7_field_22 rfl ?_
    refine ⟨?_, ⟨π, sg, hI⟩, fun _ _ _ => rfl⟩
    show -1 = aField a p g w
    unfold aField
    rw [if_neg (by omega)]
  · refine r_iload_n dX7_field_8 rfl ?_
    refine r_iflt (tgt := 21) dX7_field_9 (by decide) (by omega) (fun h9 => ?_) (fun h9 => ?_)
    · refine r_iconst dX7_field_21 ?_
      refine q_iretZR dX7_field_22 rfl ?_
      refine ⟨?_, ⟨π, sg, hI⟩, fun _ _ _ => rfl⟩
      show -1 = aField a p g w
      unfold aField
      rw [if_neg (by omega)]
    · refine r_iload_n dX7_field_12 rfl ?_
      refine r_iconst dX7_field_13 ?_
      refine r_iconst dX7_field_14 ?_
      refine q_callSF lk_X7_38 dX7_field_15 (c_isWithin I R w 0 5 hw (by decide) (by decide)) (by decide) rfl rfl (Nat.le_of_ble_eq_true rfl) (by decide) ?_
      refine q_ifneB (tgt := 23) dX7_field_18 (by decide) (fun h18 => ?_) (fun h18 => ?_)
      · refine r_aload_n dX7_field_23 rfl ?_
        refine r_iload_n dX7_field_24 rfl ?_
        refine r_aload_n dX7_field_25 rfl ?_
        refine q_getR fl_X7_12 dX7_field_26 sf_0 (ro_0_0 hRO) ?_
        refine q_getI fl_X7_45 dX7_field_29 sf_1 ?_
        rw [hcols]
        refine q_callVW lk_X7_129 dX7_field_32 (k_layOut I R π sg a hI hA p (by omega) a.1.1.1 (by omega)) (by decide) sf_0 rfl rfl (Nat.le_of_ble_eq_true rfl) (by decide) (fun I5 hI5 => ?_)
        obtain ⟨hL5, hT5, hW5, hk5⟩ := hI5
        have hI5 : CI I5 R π sg a := hI.bl (fun x j h => hk5 x j (by omega)) hA.2.1
        have hinv := layS_inv (W := a.1.1.1) (D := a.1.1.2.1) (y := yOf a p) (v := (a.1.2.2 p.toNat)) (by omega) hW2 (hW.2.2.2.1 (a.1.2.2 p.toNat).1.toNat (by have := (hW.2.2.2.2 p.toNat (by omega)).1; omega)) (hW.2.2.2.2 p.toNat (by omega))
        have hrow := hinv.1
        have hnf := (wdT_ok (hW.2.2.2.2 p.toNat (by omega))).1
        have hvl := (hW.2.2.2.2 p.toNat (by omega)).2.1
        refine r_iload_n dX7_field_35 rfl ?_
        refine r_aload_n dX7_field_36 rfl ?_
        refine q_getR fl_X7_34 dX7_field_37 sf_0 (ro_0_6 hRO) ?_
        refine q_getR fl_X7_180 dX7_field_40 sf_34 (ro_34_0 hRO) ?_
        refine q_getI fl_X7_184 dX7_field_43 sf_35 ?_
        rw [hT5.2.1]
        refine r_icmpge (tgt := 55) dX7_field_46 (by decide) (by omega) (by omega) (fun h46 => ?_) (fun h46 => ?_)
        · refine r_bipush dX7_field_55 (by decide) ?_
          refine q_iretZR dX7_field_57 rfl ?_
          refine ⟨?_, ⟨π, sg, hI5⟩, fun x j h => hk5 x j (by omega)⟩
          show _ = aField a p g w
          unfold aField
          rw [if_pos (by omega)]
          first | (rw [if_neg (by omega)]) | (exfalso; omega)
        · refine r_iload_n dX7_field_49 rfl ?_
          refine r_bipush dX7_field_50 (by decide) ?_
          refine r_icmplt (tgt := 58) dX7_field_52 (by decide) (by omega) (by omega) (fun h52 => ?_) (fun h52 => ?_)
          · refine r_aload_n dX7_field_58 rfl ?_
            refine q_getR fl_X7_34 dX7_field_59 sf_0 (ro_0_6 hRO) ?_
            refine q_getR fl_X7_189 dX7_field_62 sf_34 (ro_34_2 hRO) ?_
            refine r_iload_n dX7_field_65 rfl ?_
            refine q_aaldI dX7_field_66 sf_46 (by omega) (ro46i hRO (i := g) (by omega)) ?_
            refine r_iload_n dX7_field_67 rfl ?_
            refine q_iald dX7_field_68 (sf_row (i := g.toNat) (by omega)) (by omega) ?_
            refine q_iretZR dX7_field_69 rfl ?_
            refine ⟨?_, ⟨π, sg, hI5⟩, fun x j h => hk5 x j (by omega)⟩
            show _ = aField a p g w
            unfold aField
            rw [if_pos (by omega), if_pos (by omega)]
            have h8 := hL5.2.2.2.2 g.toNat w (by omega) (by omega) (by omega)
            rw [show ((g.toNat : Nat) : Int) = g by omega] at h8
            exact h8
          · refine r_bipush dX7_field_55 (by decide) ?_
            refine q_iretZR dX7_field_57 rfl ?_
            refine ⟨?_, ⟨π, sg, hI5⟩, fun x j h => hk5 x j (by omega)⟩
            show _ = aField a p g w
            unfold aField
            rw [if_pos (by omega)]
            first | (rw [if_neg (by omega)]) | (exfalso; omega)
      · refine r_iconst dX7_field_21 ?_
        refine q_iretZR dX7_field_22 rfl ?_
        refine ⟨?_, ⟨π, sg, hI⟩, fun _ _ _ => rfl⟩
        show -1 = aField a p g w
        unfold aField
        rw [if_neg (by omega)]
set_option maxHeartbeats 4000000 in
set_option maxRecDepth 100000 in
theorem k_count (I : Mem) (R : RMem) (π sg : Nat → Nat) (a : AS) (hI : CI I R π sg a) (hA : AbsOk a) (w : Int) (hw : -2147483648 ≤ w ∧ w ≤ 2147483647) : CC 7 0 0 yX7_count cX7_count 4 (some .int) [.inr (some 0), .inl (w)] (290, ShF, I, R) (PC (aCount a w, a) I) := by
  have hRO := hI.1.1
  have hcols : I 1 0 = a.1.1.1 := hI.2.1.1
  have hdist : I 1 1 = a.1.1.2.1 := hI.2.1.2.1
  have hcnt : I 1 2 = a.1.1.2.2 := hI.2.1.2.2.1
  have hW := hA.1
  have hW1 := hW.1
  have hW2 := hW.2.1
  have hW3 := hW.2.2.1
  have hloop : ∀ (n : Nat) (s p : Int) (I2 : Mem), 8 < p + n → (0 ≤ p ∧ p ≤ a.1.1.2.2) → CI I2 R π sg a → (∀ (x : Nat) (j : Int), 290 ≤ x → I2 x j = I x j) → s = lnG a p.toNat → (0 ≤ s ∧ s ≤ 100 * p) → WW cX7_count RX7 4 (some .int) false 7 0 0 (PC (aCount a 3, a) I) 0 0 68 [some (.inr (some 0)), some (.inl 3), some (.inl (s)), some (.inl (p))] [] (290, ShF, I2, R) := by
    intro n
    induction n with
    | zero => intros; exfalso; omega
    | succ n ih =>
      intro s p I2 g1 g2 g3 g4 g5 g6
      refine r_iload_n dX7_count_68 rfl ?_
      refine r_aload_n dX7_count_69 rfl ?_
      refine q_getR fl_X7_12 dX7_count_70 sf_0 (ro_0_0 hRO) ?_
      refine q_getI fl_X7_101 dX7_count_73 sf_1 ?_
      have hc2 : I2 1 2 = a.1.1.2.2 := g3.2.1.2.2.1
      rw [hc2]
      refine r_icmpge (tgt := 107) dX7_count_76 (by decide) (by omega) (by omega) (fun h76 => ?_) (fun h76 => ?_)
      · refine r_iload_n dX7_count_107 rfl ?_
        refine q_iretZR dX7_count_108 rfl ?_
        refine ⟨?_, ⟨π, sg, g3⟩, g4⟩
        show s = lnG a a.1.1.2.2.toNat
        rw [g5, show p = a.1.1.2.2 by omega]
      · refine r_aload_n dX7_count_79 rfl ?_
        refine r_iload_n dX7_count_80 rfl ?_
        refine r_aload_n dX7_count_81 rfl ?_
        refine q_getR fl_X7_12 dX7_count_82 sf_0 (ro_0_0 hRO) ?_
        refine q_getI fl_X7_45 dX7_count_85 sf_1 ?_
        have hw2 : I2 1 0 = a.1.1.1 := g3.2.1.1
        rw [hw2]
        refine q_callVW lk_X7_129 dX7_count_88 (k_layOut I2 R π sg a g3 hA p (by omega) a.1.1.1 (by omega)) (by decide) sf_0 rfl rfl (Nat.le_of_ble_eq_true rfl) (by decide) (fun I5 hI5 => ?_)
        obtain ⟨hL5, hT5, hW5, hk5⟩ := hI5
        have hI5 : CI I5 R π sg a := g3.bl (fun x j h => hk5 x j (by omega)) hA.2.1
        have hinv := layS_inv (W := a.1.1.1) (D := a.1.1.2.1) (y := yOf a p) (v := (a.1.2.2 p.toNat)) (by omega) hW2 (hW.2.2.2.1 (a.1.2.2 p.toNat).1.toNat (by have := (hW.2.2.2.2 p.toNat (by omega)).1; omega)) (hW.2.2.2.2 p.toNat (by omega))
        have hrow := hinv.1
        refine r_iload_n dX7_count_91 rfl ?_
        refine r_aload_n dX7_count_92 rfl ?_
        refine q_getR fl_X7_34 dX7_count_93 sf_0 (ro_0_6 hRO) ?_
        refine q_callVF lk_X7_133 dX7_count_96 (c_lineCount I5 R hRO) (by decide) sf_34 rfl rfl (Nat.le_of_ble_eq_true rfl) (by decide) ?_
        rw [hL5.1]
        have hst : lnG a (p + 1).toNat = lnG a p.toNat + ((lyA a p a.1.1.1).1 + 1) := by
          rw [show (p + 1).toNat = p.toNat + 1 by omega]
          show lnG a p.toNat + ((lyA a ((p.toNat : Nat) : Int) a.1.1.1).1 + 1) = _
          rw [show ((p.toNat : Nat) : Int) = p by omega]
        have hle : (lyA a p a.1.1.1).1 = (layS a.1.1.1 a.1.1.2.1 (yOf a p) (a.1.2.2 p.toNat)).1 := rfl
        refine r_iadd dX7_count_99 ?_
        refine r_istore_n dX7_count_100 (by decide) ?_
        dsimp only [lset]
        refine r_iinc dX7_count_101 rfl (by decide) ?_
        dsimp only [lset]
        refine r_goto (tgt := 68) dX7_count_104 (by decide) ?_
        exact ih _ (p + 1) I5 (by omega) (by omega) hI5 (fun x j h => (hk5 x j (by omega)).trans (g4 x j h)) (by rw [hst, g5]) (by omega)
  refine CC_of (own := RX7) (ini := false) (by decide +kernel) rfl (fun h => absurd h (by decide)) (Nat.le_of_ble_eq_true rfl) ?_
  show WW cX7_count RX7 4 (some .int) false 7 0 0 (PC (aCount a w, a) I) 0 0 0 [some (.inr (some 0)), some (.inl (w)), none, none] [] (290, ShF, I, R)
  refine r_iload_n dX7_count_0 rfl ?_
  rcases (show w = 0 ∨ w = 1 ∨ w = 2 ∨ w = 3 ∨ w = 4 ∨ w = 5 ∨ (w < 0 ∨ 5 < w) by omega) with rfl | rfl | rfl | rfl | rfl | rfl | hww
  · refine r_tsIn (off := 39) (tgt := 40) dX7_count_1 (by decide) (by decide) rfl (by decide) ?_
    refine r_aload_n dX7_count_40 rfl ?_
    refine q_getR fl_X7_12 dX7_count_41 sf_0 (ro_0_0 hRO) ?_
    refine q_getI fl_X7_45 dX7_count_44 sf_1 ?_
    refine q_iretZR dX7_count_47 rfl ?_
    refine ⟨?_, ⟨π, sg, hI⟩, fun _ _ _ => rfl⟩
    show _ = aCount a 0
    exact hcols
  · refine r_tsIn (off := 47) (tgt := 48) dX7_count_1 (by decide) (by decide) rfl (by decide) ?_
    refine r_aload_n dX7_count_48 rfl ?_
    refine q_getR fl_X7_12 dX7_count_49 sf_0 (ro_0_0 hRO) ?_
    refine q_getI fl_X7_49 dX7_count_52 sf_1 ?_
    refine q_iretZR dX7_count_55 rfl ?_
    refine ⟨?_, ⟨π, sg, hI⟩, fun _ _ _ => rfl⟩
    show _ = aCount a 1
    exact hdist
  · refine r_tsIn (off := 55) (tgt := 56) dX7_count_1 (by decide) (by decide) rfl (by decide) ?_
    refine r_aload_n dX7_count_56 rfl ?_
    refine q_getR fl_X7_12 dX7_count_57 sf_0 (ro_0_0 hRO) ?_
    refine q_getI fl_X7_101 dX7_count_60 sf_1 ?_
    refine q_iretZR dX7_count_63 rfl ?_
    refine ⟨?_, ⟨π, sg, hI⟩, fun _ _ _ => rfl⟩
    show _ = aCount a 2
    exact hcnt
  · refine r_tsIn (off := 63) (tgt := 64) dX7_count_1 (by decide) (by decide) rfl (by decide) ?_
    refine r_iconst dX7_count_64 ?_
    refine r_istore_n dX7_count_65 (by decide) ?_
    dsimp only [lset]
    refine r_iconst dX7_count_66 ?_
    refine r_istore_n dX7_count_67 (by decide) ?_
    dsimp only [lset]
    exact hloop 9 0 0 I (by omega) (by omega) hI (fun _ _ _ => rfl) rfl (by omega)
  · refine r_tsIn (off := 108) (tgt := 109) dX7_count_1 (by decide) (by decide) rfl (by decide) ?_
    refine r_aload_n dX7_count_109 rfl ?_
    refine q_getI fl_X7_86 dX7_count_110 sf_0 ?_
    refine q_iretZR dX7_count_113 rfl ?_
    refine ⟨?_, ⟨π, sg, hI⟩, fun _ _ _ => rfl⟩
    show _ = aCount a 4
    exact hI.2.2.2.2.1
  · refine r_tsIn (off := 113) (tgt := 114) dX7_count_1 (by decide) (by decide) rfl (by decide) ?_
    refine r_aload_n dX7_count_114 rfl ?_
    refine q_getI fl_X7_137 dX7_count_115 sf_0 ?_
    refine q_iretZR dX7_count_118 rfl ?_
    refine ⟨?_, ⟨π, sg, hI⟩, fun _ _ _ => rfl⟩
    show _ = aCount a 5
    exact hI.2.2.1
  · refine r_tsOut (tgt := 119) dX7_count_1 hw hww (by decide) ?_
    refine r_iconst dX7_count_119 ?_
    refine q_iretZR dX7_count_120 rfl ?_
    refine ⟨?_, ⟨π, sg, hI⟩, fun _ _ _ => rfl⟩
    show _ = aCount a w
    unfold aCount
    rw [if_neg (by omega), if_neg (by omega), if_neg (by omega), if_neg (by omega), if_neg (by omega), if_neg (by omega)]
