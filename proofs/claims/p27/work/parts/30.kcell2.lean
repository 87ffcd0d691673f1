/-! cell, holds: the class -/
set_option maxHeartbeats 4000000 in
set_option maxRecDepth 100000 in
theorem k_holds (I : Mem) (R : RMem) (π sg : Nat → Nat) (a : AS) (hI : CI I R π sg a) (hA : AbsOk a) (p : Int) (hp : -2147483648 ≤ p ∧ p ≤ 2147483647) (w : Int) (hw : -2147483648 ≤ w ∧ w ≤ 2147483647) : CC 7 0 0 yX7_holds cX7_holds 6 (some .int) [.inr (some 0), .inl (p), .inl (w)] (290, ShF, I, R) (PC (aHolds a p w, a) I) := by
  have hRO := hI.1.1
  have hcols : I 1 0 = a.1.1.1 := hI.2.1.1
  have hdist : I 1 1 = a.1.1.2.1 := hI.2.1.2.1
  have hcnt : I 1 2 = a.1.1.2.2 := hI.2.1.2.2.1
  have hW := hA.1
  have hW1 := hW.1
  have hW2 := hW.2.1
  have hW3 := hW.2.2.1
  refine CC_of (own := RX7) (ini := false) (by decide +kernel) rfl (fun h => absurd h (by decide)) (Nat.le_of_ble_eq_true rfl) ?_
  show WW cX7_holds RX7 6 (some .int) false 7 0 0 (PC (aHolds a p w, a) I) 0 0 0 [some (.inr (some 0)), some (.inl (p)), some (.inl (w)), none, none, none] [] (290, ShF, I, R)
  refine r_aload_n dX7_holds_0 rfl ?_
  refine r_iload_n dX7_holds_1 rfl ?_
  refine q_callVF lk_X7_116 dX7_holds_2 (c_isParagraph I R hRO a.1.1.2.2 hcnt hW3 p hp) (by decide) sf_0 rfl rfl (Nat.le_of_ble_eq_true rfl) (by decide) ?_
  refine q_ifeqB (tgt := 17) dX7_holds_5 (by decide) (fun h5 => ?_) (fun h5 => ?_)
  · refine r_iconst dX7_holds_17 ?_
    refine q_iretZR dX7_holds_18 rfl ?_
    refine ⟨?_, ⟨π, sg, hI⟩, fun _ _ _ => rfl⟩
    show -1 = aHolds a p w
    unfold aHolds
    rw [if_neg (by omega)]
  · refine r_iload_n dX7_holds_8 rfl ?_
    refine r_iconst dX7_holds_9 ?_
    refine r_iconst dX7_holds_10 ?_
    refine q_callSF lk_X7_38 dX7_holds_11 (c_isWithin I R w 0 3 hw (by decide) (by decide)) (by decide) rfl rfl (Nat.le_of_ble_eq_true rfl) (by decide) ?_
    refine q_ifneB (tgt := 19) dX7_holds_14 (by decide) (fun h14 => ?_) (fun h14 => ?_)
    · refine r_aload_n dX7_holds_19 rfl ?_
      refine r_iload_n dX7_holds_20 rfl ?_
      refine r_aload_n dX7_holds_21 rfl ?_
      refine q_getR fl_X7_12 dX7_holds_22 sf_0 (ro_0_0 hRO) ?_
      refine q_getI fl_X7_45 dX7_holds_25 sf_1 ?_
      rw [hcols]
      refine q_callVW lk_X7_129 dX7_holds_28 (k_layOut I R π sg a hI hA p (by omega) a.1.1.1 (by omega)) (by decide) sf_0 rfl rfl (Nat.le_of_ble_eq_true rfl) (by decide) (fun I5 hI5 => ?_)
      obtain ⟨hL5, hT5, hW5, hk5⟩ := hI5
      have hI5 : CI I5 R π sg a := hI.bl (fun x j h => hk5 x j (by omega)) hA.2.1
      have hinv := layS_inv (W := a.1.1.1) (D := a.1.1.2.1) (y := yOf a p) (v := (a.1.2.2 p.toNat)) (by omega) hW2 (hW.2.2.2.1 (a.1.2.2 p.toNat).1.toNat (by have := (hW.2.2.2.2 p.toNat (by omega)).1; omega)) (hW.2.2.2.2 p.toNat (by omega))
      have hrow := hinv.1
      have hI5y : yOf a p = a.1.2.1 (a.1.2.2 p.toNat).1.toNat := rfl
      have hinv : Inv a.1.1.1 (lyA a p a.1.1.1) 80 80 := hinv
      have hwp := hW.2.2.2.2 p.toNat (by omega)
      have hwy := hW.2.2.2.1 (a.1.2.2 p.toNat).1.toNat (by have := hwp.1; omega)
      have hpb : PB (lyA a p a.1.1.1) := layS_pb (by omega) hW2 hwy hwp
      have hs3 := hwp.1
      have hpar := rp0 hRO hI.1.2.1 (i := p) (by omega)
      have hpp := hpar.2.2
      have h9 := at0_p hI5.2.1 (i := p) (by omega)
      have hys := at0_y hI5.2.1 (i := (a.1.2.2 p.toNat).1) (by omega)
      have hysv : SV (I5 (5 + 2 * (a.1.2.2 p.toNat).1.toNat)) := SV.congr hys.2.2 hwy.2.2.1
      have hi4 := hinv.2.2.2.1
      have hi3 := hinv.2.2.1
      have hrow : 0 ≤ (lyA a p a.1.1.1).1 ∧ (lyA a p a.1.1.1).1 ≤ 80 := hinv.1
      generalize hLY : (lyA a p a.1.1.1) = S at hL5 hinv hpb hi4 hi3 hrow
      refine r_aload_n dX7_holds_31 rfl ?_
      refine q_getR fl_X7_34 dX7_holds_32 sf_0 (ro_0_6 hRO) ?_
      refine q_getR fl_X7_156 dX7_holds_35 sf_34 (ro_34_1 hRO) ?_
      refine r_iconst dX7_holds_38 ?_
      refine q_callVF lk_X7_193 dX7_holds_39 (c_filled I5 R hRO hW1 hL5 hinv 0 (Or.inl rfl) hpb) (by decide) sf_40 rfl rfl (Nat.le_of_ble_eq_true rfl) (by decide) ?_
      refine r_istore_n dX7_holds_42 (by decide) ?_
      dsimp only [lset]
      refine r_aload_n dX7_holds_43 rfl ?_
      refine q_getR fl_X7_34 dX7_holds_44 sf_0 (ro_0_6 hRO) ?_
      refine q_getR fl_X7_156 dX7_holds_47 sf_34 (ro_34_1 hRO) ?_
      refine r_iconst dX7_holds_50 ?_
      refine q_callVF lk_X7_193 dX7_holds_51 (c_filled I5 R hRO hW1 hL5 hinv 1 (Or.inr rfl) hpb) (by decide) sf_40 rfl rfl (Nat.le_of_ble_eq_true rfl) (by decide) ?_
      refine r_istore dX7_holds_54 (by decide) ?_
      dsimp only [lset]
      refine r_aload_n dX7_holds_56 rfl ?_
      refine q_getR fl_X7_34 dX7_holds_57 sf_0 (ro_0_6 hRO) ?_
      refine r_aload_n dX7_holds_60 rfl ?_
      refine r_iload_n dX7_holds_61 rfl ?_
      refine q_callVA lk_X7_165 dX7_holds_62 (k_styleOf I5 R π sg a hI5 hA p (by omega)) (by decide) sf_0 rfl rfl (Nat.le_of_ble_eq_true rfl) (by decide) ?_
      refine q_callVF lk_X7_197 dX7_holds_65 (c_barColumns I5 R hRO hW1 hL5 hinv hW5 (ry0 hRO (i := (a.1.2.2 p.toNat).1) (by omega)).2 (g := (yOf a p).2.2) hwy.2.2.1 hys.2.2) (by decide) sf_34 rfl rfl (Nat.le_of_ble_eq_true rfl) (by decide) ?_
      refine r_istore dX7_holds_68 (by decide) ?_
      dsimp only [lset]
      refine r_iload_n dX7_holds_70 rfl ?_
      rcases (show w = 0 ∨ w = 1 ∨ w = 2 ∨ w = 3 by omega) with rfl | rfl | rfl | rfl
      · refine r_tsIn (off := 25) (tgt := 96) dX7_holds_71 (by decide) (by decide) rfl (by decide) ?_
        refine r_iload_n dX7_holds_96 rfl ?_
        refine q_iretZR dX7_holds_97 rfl ?_
        refine ⟨?_, ⟨π, sg, hI5⟩, fun x j h => hk5 x j (by omega)⟩
        show _ = aHolds a p 0
        unfold aHolds
        rw [if_pos (by omega), hLY]
        unfold hdA brA
        rw [if_pos rfl]
      · refine r_tsIn (off := 27) (tgt := 98) dX7_holds_71 (by decide) (by decide) rfl (by decide) ?_
        refine r_iload dX7_holds_98 rfl ?_
        refine q_iretZR dX7_holds_100 rfl ?_
        refine ⟨?_, ⟨π, sg, hI5⟩, fun x j h => hk5 x j (by omega)⟩
        show _ = aHolds a p 1
        unfold aHolds
        rw [if_pos (by omega), hLY]
        unfold hdA brA
        rw [if_neg (by decide), if_pos rfl]
      · refine r_tsIn (off := 30) (tgt := 101) dX7_holds_71 (by decide) (by decide) rfl (by decide) ?_
        refine r_iload dX7_holds_101 rfl ?_
        refine q_iretZR dX7_holds_103 rfl ?_
        refine ⟨?_, ⟨π, sg, hI5⟩, fun x j h => hk5 x j (by omega)⟩
        show _ = aHolds a p 2
        unfold aHolds
        rw [if_pos (by omega), hLY]
        unfold hdA brA
        rw [if_neg (by decide), if_neg (by decide), if_pos rfl]
      · refine r_tsOut (tgt := 104) dX7_holds_71 hw (Or.inr (by decide)) (by decide) ?_
        refine r_aload_n dX7_holds_104 rfl ?_
        refine q_getR fl_X7_34 dX7_holds_105 sf_0 (ro_0_6 hRO) ?_
        refine q_callVF lk_X7_133 dX7_holds_108 (c_lineCount I5 R hRO) (by decide) sf_34 rfl rfl (Nat.le_of_ble_eq_true rfl) (by decide) ?_
        rw [hL5.1]
        refine r_aload_n dX7_holds_111 rfl ?_
        refine q_getR fl_X7_12 dX7_holds_112 sf_0 (ro_0_0 hRO) ?_
        refine q_getI fl_X7_45 dX7_holds_115 sf_1 ?_
        have hcw : I5 1 0 = a.1.1.1 := hI5.2.1.1
        rw [hcw]
        refine r_imul dX7_holds_118 ?_
        refine r_iload_n dX7_holds_119 rfl ?_
        refine r_isub dX7_holds_120 ?_
        refine r_iload dX7_holds_121 rfl ?_
        refine r_isub dX7_holds_123 ?_
        refine r_iload dX7_holds_124 rfl ?_
        refine r_isub dX7_holds_126 ?_
        refine q_iretZR dX7_holds_127 rfl ?_
        refine ⟨?_, ⟨π, sg, hI5⟩, fun x j h => hk5 x j (by omega)⟩
        show _ = aHolds a p 3
        unfold aHolds
        rw [if_pos (by omega), hLY]
        unfold hdA brA
        rw [if_neg (by decide), if_neg (by decide), if_neg (by decide)]
    · refine r_iconst dX7_holds_17 ?_
      refine q_iretZR dX7_holds_18 rfl ?_
      refine ⟨?_, ⟨π, sg, hI⟩, fun _ _ _ => rfl⟩
      show -1 = aHolds a p w
      unfold aHolds
      rw [if_neg (by omega)]
