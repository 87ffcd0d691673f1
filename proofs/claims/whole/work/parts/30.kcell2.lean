/-! cell, holds: the class -/
set_option maxHeartbeats 4000000 in
set_option maxRecDepth 100000 in
theorem k_cell (I : Mem) (R : RMem) (π sg : Nat → Nat) (a : AS) (hI : CI I R π sg a) (hA : AbsOk a) (p : Int) (hp : -2147483648 ≤ p ∧ p ≤ 2147483647) (r : Int) (hr : -2147483648 ≤ r ∧ r ≤ 2147483647) (q : Int) (hq : -2147483648 ≤ q ∧ q ≤ 2147483647) : CC 7 0 0 yX7_cell cX7_cell 7 (some .int) [.inr (some 0), .inl (p), .inl (r), .inl (q)] (298, ShF, I, R) (PC (aCell a p r q, a) I) := by
  have hRO := hI.1.1
  have hcols : I 1 0 = a.1.1.1 := hI.2.1.1
  have hdist : I 1 1 = a.1.1.2.1 := hI.2.1.2.1
  have hcnt : I 1 2 = a.1.1.2.2 := hI.2.1.2.2.1
  have hW := hA.1
  have hW1 := hW.1
  have hW2 := hW.2.1
  have hW3 := hW.2.2.1
  refine CC_of (own := RX7) (ini := false) (by decide +kernel) rfl (fun h => absurd h (by decide)) (Nat.le_of_ble_eq_true rfl) ?_
  show WW cX7_cell RX7 7 (some .int) false 7 0 0 (PC (aCell a p r q, a) I) 0 0 0 [some (.inr (some 0)), some (.inl (p)), some (.inl (r)), some (.inl (q)), none, none, none] [] (298, ShF, I, R)
  refine r_aload_n dX7_cell_0 rfl ?_
  refine r_iload_n dX7_cell_1 rfl ?_
  refine q_callVF lk_X7_116 dX7_cell_2 (c_isParagraph I R hRO a.1.1.2.2 hcnt hW3 p hp) (by decide) sf_0 rfl rfl (Nat.le_of_ble_eq_true rfl) (by decide) ?_
  refine q_ifeqB (tgt := 29) dX7_cell_5 (by decide) (fun h5 => ?_) (fun h5 => ?_)
  · refine r_iconst dX7_cell_29 ?_
    refine q_iretZR dX7_cell_30 rfl ?_
    refine ⟨?_, ⟨π, sg, hI⟩, fun _ _ _ => rfl⟩
    show -1 = aCell a p r q
    unfold aCell
    rw [if_neg (by omega)]
  · refine r_iload_n dX7_cell_8 rfl ?_
    refine r_iflt (tgt := 29) dX7_cell_9 (by decide) (by omega) (fun h9 => ?_) (fun h9 => ?_)
    · refine r_iconst dX7_cell_29 ?_
      refine q_iretZR dX7_cell_30 rfl ?_
      refine ⟨?_, ⟨π, sg, hI⟩, fun _ _ _ => rfl⟩
      show -1 = aCell a p r q
      unfold aCell
      rw [if_neg (by omega)]
    · refine r_iload_n dX7_cell_12 rfl ?_
      refine r_iconst dX7_cell_13 ?_
      refine r_aload_n dX7_cell_14 rfl ?_
      refine q_getR fl_X7_12 dX7_cell_15 sf_0 (ro_0_0 hRO) ?_
      refine q_getI fl_X7_45 dX7_cell_18 sf_1 ?_
      rw [hcols]
      refine r_iconst dX7_cell_21 ?_
      refine r_isub dX7_cell_22 ?_
      refine q_callSF lk_X7_38 dX7_cell_23 (c_isWithin I R q 0 (a.1.1.1 - 1) hq (by decide) (by omega)) (by decide) rfl rfl (Nat.le_of_ble_eq_true rfl) (by decide) ?_
      refine q_ifneB (tgt := 31) dX7_cell_26 (by decide) (fun h26 => ?_) (fun h26 => ?_)
      · refine r_aload_n dX7_cell_31 rfl ?_
        refine r_iload_n dX7_cell_32 rfl ?_
        refine r_aload_n dX7_cell_33 rfl ?_
        refine q_getR fl_X7_12 dX7_cell_34 sf_0 (ro_0_0 hRO) ?_
        refine q_getI fl_X7_45 dX7_cell_37 sf_1 ?_
        rw [hcols]
        refine q_callVW lk_X7_129 dX7_cell_40 (k_layOut I R π sg a hI hA p (by omega) a.1.1.1 (by omega)) (by decide) sf_0 rfl rfl (Nat.le_of_ble_eq_true rfl) (by decide) (fun I5 hI5 => ?_)
        obtain ⟨hL5, hT5, hW5, hk5⟩ := hI5
        have hI5 : CI I5 R π sg a := hI.bl (fun x j h => hk5 x j (by omega)) hA.2.1
        have hinv := layS_inv (W := a.1.1.1) (D := a.1.1.2.1) (y := yOf a p) (v := (a.1.2.2 p.toNat)) (by omega) hW2 (hW.2.2.2.1 (a.1.2.2 p.toNat).1.toNat (by have := (hW.2.2.2.2 p.toNat (by omega)).1; omega)) (hW.2.2.2.2 p.toNat (by omega))
        have hrow := hinv.1
        have hI5y : yOf a p = a.1.2.1 (a.1.2.2 p.toNat).1.toNat := rfl
        have hinv : Inv a.1.1.1 (lyA a p a.1.1.1) 80 80 := hinv
        have hwp := hW.2.2.2.2 p.toNat (by omega)
        have hwy := hW.2.2.2.1 (a.1.2.2 p.toNat).1.toNat (by have := hwp.1; omega)
        have hpb : PB (lyA a p a.1.1.1) := layS_pb (by omega) hW2 hwy hwp
        have hs3 := hwp.1
        have hpar := rp0 hRO hI.1.2.1 (i := p) (by omega)
        have hpp := hpar.2.2
        have h9 := at0_p hI5.2.1 (i := p) (by omega)
        have hys := at0_y hI5.2.1 (i := (a.1.2.2 p.toNat).1) (by omega)
        have hysv : SV (I5 (5 + 2 * (a.1.2.2 p.toNat).1.toNat)) := SV.congr hys.2.2 hwy.2.2.1
        have hi4 := hinv.2.2.2.1
        have hi3 := hinv.2.2.1
        have hrow : 0 ≤ (lyA a p a.1.1.1).1 ∧ (lyA a p a.1.1.1).1 ≤ 80 := hinv.1
        generalize hLY : (lyA a p a.1.1.1) = S at hL5 hinv hpb hi4 hi3 hrow
        refine r_iload_n dX7_cell_43 rfl ?_
        refine r_aload_n dX7_cell_44 rfl ?_
        refine q_getR fl_X7_34 dX7_cell_45 sf_0 (ro_0_6 hRO) ?_
        refine q_callVF lk_X7_133 dX7_cell_48 (c_lineCount I5 R hRO) (by decide) sf_34 rfl rfl (Nat.le_of_ble_eq_true rfl) (by decide) ?_
        rw [hL5.1]
        refine r_icmplt (tgt := 57) dX7_cell_51 (by decide) (by omega) (by omega) (fun h51 => ?_) (fun h51 => ?_)
        · refine r_aload_n dX7_cell_57 rfl ?_
          refine q_getR fl_X7_34 dX7_cell_58 sf_0 (ro_0_6 hRO) ?_
          refine q_getR fl_X7_156 dX7_cell_61 sf_34 (ro_34_1 hRO) ?_
          refine r_astore dX7_cell_64 (by decide) ?_
          dsimp only [lset]
          refine r_aload dX7_cell_66 rfl ?_
          refine r_iload_n dX7_cell_68 rfl ?_
          refine r_iload_n dX7_cell_69 rfl ?_
          refine q_callVF lk_X7_160 dX7_cell_70 (c_pieceAt I5 R hRO hW1 hL5 hinv r q (by omega) (by omega)) (by decide) sf_40 rfl rfl (Nat.le_of_ble_eq_true rfl) (by decide) ?_
          have hpc := pcAt_bd S.2.2.2.1 r q S.2.2.1.toNat
          refine r_istore dX7_cell_73 (by decide) ?_
          dsimp only [lset]
          refine r_iload dX7_cell_75 rfl ?_
          refine r_iconst dX7_cell_77 ?_
          refine r_icmpne (tgt := 102) dX7_cell_78 (by decide) (by omega) (by omega) (fun h78 => ?_) (fun h78 => ?_)
          · refine r_aload dX7_cell_102 rfl ?_
            have hpi := hL5.2.2.2.1 (pcAt S.2.2.2.1 r q S.2.2.1.toNat) (by omega) (by omega)
            have hpr := hpb (pcAt S.2.2.2.1 r q S.2.2.1.toNat) (by omega) (by omega)
            have hgeo := hi4 (pcAt S.2.2.2.1 r q S.2.2.1.toNat) (by omega) (by omega)
            refine q_getR fl_X7_169 dX7_cell_104 sf_40 (ro_40_4 hRO) ?_
            refine r_iload dX7_cell_107 rfl ?_
            refine q_iald dX7_cell_109 sf_44 (by omega) ?_
            rw [hpi.2.2.2.1]
            refine r_ifeq (tgt := 125) dX7_cell_110 (by decide) (by omega) (fun h110 => ?_) (fun h110 => ?_)
            · refine r_aload dX7_cell_125 rfl ?_
              refine q_getR fl_X7_175 dX7_cell_127 sf_40 (ro_40_5 hRO) ?_
              refine r_iload dX7_cell_130 rfl ?_
              refine q_iald dX7_cell_132 sf_45 (by omega) ?_
              rw [hpi.2.2.2.2]
              refine r_iload_n dX7_cell_133 rfl ?_
              refine r_iadd dX7_cell_134 ?_
              refine r_aload dX7_cell_135 rfl ?_
              refine q_getR fl_X7_178 dX7_cell_137 sf_40 (ro_40_2 hRO) ?_
              refine r_iload dX7_cell_140 rfl ?_
              refine q_iald dX7_cell_142 sf_42 (by omega) ?_
              rw [hpi.2.1]
              refine r_isub dX7_cell_143 ?_
              refine r_istore dX7_cell_144 (by decide) ?_
              dsimp only [lset]
              refine r_aload_n dX7_cell_146 rfl ?_
              refine q_getR fl_X7_12 dX7_cell_147 sf_0 (ro_0_0 hRO) ?_
              refine q_getR fl_X7_104 dX7_cell_150 sf_1 (ro_1_4 hRO) ?_
              refine r_iload_n dX7_cell_153 rfl ?_
              refine q_aald (t := 4) (by decide) dX7_cell_154 sf_3 (by omega) (rp0 hRO hI5.1.2.1 (i := p) (by omega)).1 ?_
              refine r_iload dX7_cell_155 rfl ?_
              refine q_callVF lk_X7_153 dX7_cell_157 (c_characterAt I5 R hpar.2.1 ((S.2.2.2.1 (pcAt S.2.2.2.1 r q S.2.2.1.toNat)).2.2.2.2 + q - (S.2.2.2.1 (pcAt S.2.2.2.1 r q S.2.2.1.toNat)).2.1) (by omega) (by have := h9.2.1; have := hwp.2.1; omega)) (by decide) (rp0 hRO hI5.1.2.1 (i := p) (by omega)).2.1.1 rfl rfl (Nat.le_of_ble_eq_true rfl) (by decide) ?_
              rw [h9.2.1]
              refine q_iretZR dX7_cell_160 rfl ?_
              have e : aCell a p r q = (if 0 ≤ (S.2.2.2.1 (pcAt S.2.2.2.1 r q S.2.2.1.toNat)).2.2.2.2 + q - (S.2.2.2.1 (pcAt S.2.2.2.1 r q S.2.2.1.toNat)).2.1 ∧ (S.2.2.2.1 (pcAt S.2.2.2.1 r q S.2.2.1.toNat)).2.2.2.2 + q - (S.2.2.2.1 (pcAt S.2.2.2.1 r q S.2.2.1.toNat)).2.1 < (a.1.2.2 p.toNat).2.1 then (a.1.2.2 p.toNat).2.2 ((S.2.2.2.1 (pcAt S.2.2.2.1 r q S.2.2.1.toNat)).2.2.2.2 + q - (S.2.2.2.1 (pcAt S.2.2.2.1 r q S.2.2.1.toNat)).2.1) else -9) := by
                unfold aCell
                rw [if_pos (by omega), hLY, if_pos (show r < S.1 + 1 by omega), if_neg (by omega)]
                unfold chG
                rw [if_neg (by omega), if_pos (by omega)]
              refine ⟨?_, ⟨π, sg, hI5⟩, fun x j h => hk5 x j (by omega)⟩
              show _ = aCell a p r q
              rw [e]
              have hwl := hwp.2.1
              by_cases hx : 0 ≤ (S.2.2.2.1 (pcAt S.2.2.2.1 r q S.2.2.1.toNat)).2.2.2.2 + q - (S.2.2.2.1 (pcAt S.2.2.2.1 r q S.2.2.1.toNat)).2.1 ∧ (S.2.2.2.1 (pcAt S.2.2.2.1 r q S.2.2.1.toNat)).2.2.2.2 + q - (S.2.2.2.1 (pcAt S.2.2.2.1 r q S.2.2.1.toNat)).2.1 < (a.1.2.2 p.toNat).2.1
              · rw [if_pos hx, if_pos hx]
                exact h9.2.2 _ hx.1 (by omega)
              · rw [if_neg hx, if_neg hx]
            · refine r_aload dX7_cell_113 rfl ?_
              refine q_getR fl_X7_169 dX7_cell_115 sf_40 (ro_40_4 hRO) ?_
              refine r_iload dX7_cell_118 rfl ?_
              refine q_iald dX7_cell_120 sf_44 (by omega) ?_
              rw [hpi.2.2.2.1]
              refine q_callSF lk_X7_172 dX7_cell_121 (c_leaderCharacter I5 R (S.2.2.2.1 (pcAt S.2.2.2.1 r q S.2.2.1.toNat)).2.2.2.1 (by omega)) (by decide) rfl rfl (Nat.le_of_ble_eq_true rfl) (by decide) ?_
              refine q_iretZR dX7_cell_124 rfl ?_
              refine ⟨?_, ⟨π, sg, hI5⟩, fun x j h => hk5 x j (by omega)⟩
              show _ = aCell a p r q
              unfold aCell
              rw [if_pos (by omega), hLY]
              rw [if_pos (show r < S.1 + 1 by omega), if_neg (by omega)]
              unfold chG
              rw [if_neg (by omega), if_neg (by omega)]
          · refine r_aload_n dX7_cell_81 rfl ?_
            refine r_iload_n dX7_cell_82 rfl ?_
            refine q_callVA lk_X7_165 dX7_cell_83 (k_styleOf I5 R π sg a hI5 hA p (by omega)) (by decide) sf_0 rfl rfl (Nat.le_of_ble_eq_true rfl) (by decide) ?_
            refine r_iload_n dX7_cell_86 rfl ?_
            refine q_callVF lk_X7_147 dX7_cell_87 (c_kindAt I5 R (ry0 hRO (i := (a.1.2.2 p.toNat).1) (by omega)).2 hysv q (by omega)) (by decide) (ry0 hRO (i := (a.1.2.2 p.toNat).1) (by omega)).2.1 rfl rfl (Nat.le_of_ble_eq_true rfl) (by decide) ?_
            have hkd : (if 1 ≤ q ∧ q ≤ 80 ∧ I5 (5 + 2 * (a.1.2.2 p.toNat).1.toNat) q ≠ 0 then (I5 (5 + 2 * (a.1.2.2 p.toNat).1.toNat) q - 1) / 4 else -9) = 4 ↔ (1 ≤ q ∧ 17 ≤ (yOf a p).2.2 q) := by
              by_cases hq1 : 1 ≤ q
              · have e := hys.2.2 q hq1 (by omega)
                have hb := hwy.2.2.1 q hq1 (by omega)
                rw [e, hI5y]
                split <;> omega
              · rw [if_neg (by omega)]
                omega
            generalize hkg : (if 1 ≤ q ∧ q ≤ 80 ∧ I5 (5 + 2 * (a.1.2.2 p.toNat).1.toNat) q ≠ 0 then (I5 (5 + 2 * (a.1.2.2 p.toNat).1.toNat) q - 1) / 4 else -9) = kk at hkd
            have hkr : -9 ≤ kk ∧ kk ≤ 10 := by
              rw [← hkg]
              split
              · have hb := hysv q (by omega) (by omega)
                omega
              · omega
            refine r_iconst dX7_cell_90 ?_
            refine r_icmpne (tgt := 99) dX7_cell_91 (by decide) (by omega) (by omega) (fun h91 => ?_) (fun h91 => ?_)
            · refine r_bipush dX7_cell_99 (by decide) ?_
              refine q_iretZR dX7_cell_101 rfl ?_
              refine ⟨?_, ⟨π, sg, hI5⟩, fun x j h => hk5 x j (by omega)⟩
              show _ = aCell a p r q
              unfold aCell
              rw [if_pos (by omega), hLY]
              rw [if_pos (show r < S.1 + 1 by omega), if_pos (by omega)]
              first
                | (rw [if_pos (by omega)])
                | (rw [if_neg (by omega)])
            · refine r_bipush dX7_cell_94 (by decide) ?_
              refine r_goto (tgt := 101) dX7_cell_96 (by decide) ?_
              refine q_iretZR dX7_cell_101 rfl ?_
              refine ⟨?_, ⟨π, sg, hI5⟩, fun x j h => hk5 x j (by omega)⟩
              show _ = aCell a p r q
              unfold aCell
              rw [if_pos (by omega), hLY]
              rw [if_pos (show r < S.1 + 1 by omega), if_pos (by omega)]
              first
                | (rw [if_pos (by omega)])
                | (rw [if_neg (by omega)])
        · refine r_bipush dX7_cell_54 (by decide) ?_
          refine q_iretZR dX7_cell_56 rfl ?_
          refine ⟨?_, ⟨π, sg, hI5⟩, fun x j h => hk5 x j (by omega)⟩
          show _ = aCell a p r q
          unfold aCell
          rw [if_pos (by omega), hLY]
          rw [if_neg (by omega)]
      · refine r_iconst dX7_cell_29 ?_
        refine q_iretZR dX7_cell_30 rfl ?_
        refine ⟨?_, ⟨π, sg, hI⟩, fun _ _ _ => rfl⟩
        show -1 = aCell a p r q
        unfold aCell
        rw [if_neg (by omega)]
set_option maxHeartbeats 4000000 in
set_option maxRecDepth 100000 in
theorem k_holds (I : Mem) (R : RMem) (π sg : Nat → Nat) (a : AS) (hI : CI I R π sg a) (hA : AbsOk a) (p : Int) (hp : -2147483648 ≤ p ∧ p ≤ 2147483647) (w : Int) (hw : -2147483648 ≤ w ∧ w ≤ 2147483647) : CC 7 0 0 yX7_holds cX7_holds 6 (some .int) [.inr (some 0), .inl (p), .inl (w)] (298, ShF, I, R) (PC (aHolds a p w, a) I) := by
  have hRO := hI.1.1
  have hcols : I 1 0 = a.1.1.1 := hI.2.1.1
  have hdist : I 1 1 = a.1.1.2.1 := hI.2.1.2.1
  have hcnt : I 1 2 = a.1.1.2.2 := hI.2.1.2.2.1
  have hW := hA.1
  have hW1 := hW.1
  have hW2 := hW.2.1
  have hW3 := hW.2.2.1
  refine CC_of (own := RX7) (ini := false) (by decide +kernel) rfl (fun h => absurd h (by decide)) (Nat.le_of_ble_eq_true rfl) ?_
  show WW cX7_holds RX7 6 (some .int) false 7 0 0 (PC (aHolds a p w, a) I) 0 0 0 [some (.inr (some 0)), some (.inl (p)), some (.inl (w)), none, none, none] [] (298, ShF, I, R)
  refine r_aload_n dX7_holds_0 rfl ?_
  refine r_iload_n dX7_holds_1 rfl ?_
  refine q_callVF lk_X7_116 dX7_holds_2 (c_isParagraph I R hRO a.1.1.2.2 hcnt hW3 p hp) (by decide) sf_0 rfl rfl (Nat.le_of_ble_eq_true rfl) (by decide) ?_
  refine q_ifeqB (tgt := 17) dX7_holds_5 (by decide) (fun h5 => ?_) (fun h5 => ?_)
  · refine r_iconst dX7_holds_17 ?_
    refine q_iretZR dX7_holds_18 rfl ?_
    refine ⟨?_, ⟨π, sg, hI⟩, fun _ _ _ => rfl⟩
    show -1 = aHolds a p w
    unfold aHolds
    rw [if_neg (by omega)]
  · refine r_iload_n dX7_holds_8 rfl ?_
    refine r_iconst dX7_holds_9 ?_
    refine r_iconst dX7_holds_10 ?_
    refine q_callSF lk_X7_38 dX7_holds_11 (c_isWithin I R w 0 3 hw (by decide) (by decide)) (by decide) rfl rfl (Nat.le_of_ble_eq_true rfl) (by decide) ?_
    refine q_ifneB (tgt := 19) dX7_holds_14 (by decide) (fun h14 => ?_) (fun h14 => ?_)
    · refine r_aload_n dX7_holds_19 rfl ?_
      refine r_iload_n dX7_holds_20 rfl ?_
      refine r_aload_n dX7_holds_21 rfl ?_
      refine q_getR fl_X7_12 dX7_holds_22 sf_0 (ro_0_0 hRO) ?_
      refine q_getI fl_X7_45 dX7_holds_25 sf_1 ?_
      rw [hcols]
      refine q_callVW lk_X7_129 dX7_holds_28 (k_layOut I R π sg a hI hA p (by omega) a.1.1.1 (by omega)) (by decide) sf_0 rfl rfl (Nat.le_of_ble_eq_true rfl) (by decide) (fun I5 hI5 => ?_)
      obtain ⟨hL5, hT5, hW5, hk5⟩ := hI5
      have hI5 : CI I5 R π sg a := hI.bl (fun x j h => hk5 x j (by omega)) hA.2.1
      have hinv := layS_inv (W := a.1.1.1) (D := a.1.1.2.1) (y := yOf a p) (v := (a.1.2.2 p.toNat)) (by omega) hW2 (hW.2.2.2.1 (a.1.2.2 p.toNat).1.toNat (by have := (hW.2.2.2.2 p.toNat (by omega)).1; omega)) (hW.2.2.2.2 p.toNat (by omega))
      have hrow := hinv.1
      have hI5y : yOf a p = a.1.2.1 (a.1.2.2 p.toNat).1.toNat := rfl
      have hinv : Inv a.1.1.1 (lyA a p a.1.1.1) 80 80 := hinv
      have hwp := hW.2.2.2.2 p.toNat (by omega)
      have hwy := hW.2.2.2.1 (a.1.2.2 p.toNat).1.toNat (by have := hwp.1; omega)
      have hpb : PB (lyA a p a.1.1.1) := layS_pb (by omega) hW2 hwy hwp
      have hs3 := hwp.1
      have hpar := rp0 hRO hI.1.2.1 (i := p) (by omega)
      have hpp := hpar.2.2
      have h9 := at0_p hI5.2.1 (i := p) (by omega)
      have hys := at0_y hI5.2.1 (i := (a.1.2.2 p.toNat).1) (by omega)
      have hysv : SV (I5 (5 + 2 * (a.1.2.2 p.toNat).1.toNat)) := SV.congr hys.2.2 hwy.2.2.1
      have hi4 := hinv.2.2.2.1
      have hi3 := hinv.2.2.1
      have hrow : 0 ≤ (lyA a p a.1.1.1).1 ∧ (lyA a p a.1.1.1).1 ≤ 80 := hinv.1
      generalize hLY : (lyA a p a.1.1.1) = S at hL5 hinv hpb hi4 hi3 hrow
      refine r_aload_n dX7_holds_31 rfl ?_
      refine q_getR fl_X7_34 dX7_holds_32 sf_0 (ro_0_6 hRO) ?_
      refine q_getR fl_X7_156 dX7_holds_35 sf_34 (ro_34_1 hRO) ?_
      refine r_iconst dX7_holds_38 ?_
      refine q_callVF lk_X7_193 dX7_holds_39 (c_filled I5 R hRO hW1 hL5 hinv 0 (Or.inl rfl) hpb) (by decide) sf_40 rfl rfl (Nat.le_of_ble_eq_true rfl) (by decide) ?_
      refine r_istore_n dX7_holds_42 (by decide) ?_
      dsimp only [lset]
      refine r_aload_n dX7_holds_43 rfl ?_
      refine q_getR fl_X7_34 dX7_holds_44 sf_0 (ro_0_6 hRO) ?_
      refine q_getR fl_X7_156 dX7_holds_47 sf_34 (ro_34_1 hRO) ?_
      refine r_iconst dX7_holds_50 ?_
      refine q_callVF lk_X7_193 dX7_holds_51 (c_filled I5 R hRO hW1 hL5 hinv 1 (Or.inr rfl) hpb) (by decide) sf_40 rfl rfl (Nat.le_of_ble_eq_true rfl) (by decide) ?_
      refine r_istore dX7_holds_54 (by decide) ?_
      dsimp only [lset]
      refine r_aload_n dX7_holds_56 rfl ?_
      refine q_getR fl_X7_34 dX7_holds_57 sf_0 (ro_0_6 hRO) ?_
      refine r_aload_n dX7_holds_60 rfl ?_
      refine r_iload_n dX7_holds_61 rfl ?_
      refine q_callVA lk_X7_165 dX7_holds_62 (k_styleOf I5 R π sg a hI5 hA p (by omega)) (by decide) sf_0 rfl rfl (Nat.le_of_ble_eq_true rfl) (by decide) ?_
      refine q_callVF lk_X7_197 dX7_holds_65 (c_barColumns I5 R hRO hW1 hL5 hinv hW5 (ry0 hRO (i := (a.1.2.2 p.toNat).1) (by omega)).2 (g := (yOf a p).2.2) hwy.2.2.1 hys.2.2) (by decide) sf_34 rfl rfl (Nat.le_of_ble_eq_true rfl) (by decide) ?_
      refine r_istore dX7_holds_68 (by decide) ?_
      dsimp only [lset]
      refine r_iload_n dX7_holds_70 rfl ?_
      rcases (show w = 0 ∨ w = 1 ∨ w = 2 ∨ w = 3 by omega) with rfl | rfl | rfl | rfl
      · refine r_tsIn (off := 25) (tgt := 96) dX7_holds_71 (by decide) (by decide) rfl (by decide) ?_
        refine r_iload_n dX7_holds_96 rfl ?_
        refine q_iretZR dX7_holds_97 rfl ?_
        refine ⟨?_, ⟨π, sg, hI5⟩, fun x j h => hk5 x j (by omega)⟩
        show _ = aHolds a p 0
        unfold aHolds
        rw [if_pos (by omega), hLY]
        unfold hdA brA
        rw [if_pos rfl]
      · refine r_tsIn (off := 27) (tgt := 98) dX7_holds_71 (by decide) (by decide) rfl (by decide) ?_
        refine r_iload dX7_holds_98 rfl ?_
        refine q_iretZR dX7_holds_100 rfl ?_
        refine ⟨?_, ⟨π, sg, hI5⟩, fun x j h => hk5 x j (by omega)⟩
        show _ = aHolds a p 1
        unfold aHolds
        rw [if_pos (by omega), hLY]
        unfold hdA brA
        rw [if_neg (by decide), if_pos rfl]
      · refine r_tsIn (off := 30) (tgt := 101) dX7_holds_71 (by decide) (by decide) rfl (by decide) ?_
        refine r_iload dX7_holds_101 rfl ?_
        refine q_iretZR dX7_holds_103 rfl ?_
        refine ⟨?_, ⟨π, sg, hI5⟩, fun x j h => hk5 x j (by omega)⟩
        show _ = aHolds a p 2
        unfold aHolds
        rw [if_pos (by omega), hLY]
        unfold hdA brA
        rw [if_neg (by decide), if_neg (by decide), if_pos rfl]
      · refine r_tsOut (tgt := 104) dX7_holds_71 hw (Or.inr (by decide)) (by decide) ?_
        refine r_aload_n dX7_holds_104 rfl ?_
        refine q_getR fl_X7_34 dX7_holds_105 sf_0 (ro_0_6 hRO) ?_
        refine q_callVF lk_X7_133 dX7_holds_108 (c_lineCount I5 R hRO) (by decide) sf_34 rfl rfl (Nat.le_of_ble_eq_true rfl) (by decide) ?_
        rw [hL5.1]
        refine r_aload_n dX7_holds_111 rfl ?_
        refine q_getR fl_X7_12 dX7_holds_112 sf_0 (ro_0_0 hRO) ?_
        refine q_getI fl_X7_45 dX7_holds_115 sf_1 ?_
        have hcw : I5 1 0 = a.1.1.1 := hI5.2.1.1
        rw [hcw]
        refine r_imul dX7_holds_118 ?_
        refine r_iload_n dX7_holds_119 rfl ?_
        refine r_isub dX7_holds_120 ?_
        refine r_iload dX7_holds_121 rfl ?_
        refine r_isub dX7_holds_123 ?_
        refine r_iload dX7_holds_124 rfl ?_
        refine r_isub dX7_holds_126 ?_
        refine q_iretZR dX7_holds_127 rfl ?_
        refine ⟨?_, ⟨π, sg, hI5⟩, fun x j h => hk5 x j (by omega)⟩
        show _ = aHolds a p 3
        unfold aHolds
        rw [if_pos (by omega), hLY]
        unfold hdA brA
        rw [if_neg (by decide), if_neg (by decide), if_neg (by decide)]
    · refine r_iconst dX7_holds_17 ?_
      refine q_iretZR dX7_holds_18 rfl ?_
      refine ⟨?_, ⟨π, sg, hI⟩, fun _ _ _ => rfl⟩
      show -1 = aHolds a p w
      unfold aHolds
      rw [if_neg (by omega)]
