/-! words and amounts: the class -/
set_option maxHeartbeats 4000000 in
set_option maxRecDepth 100000 in
theorem k_addWord (I : Mem) (R : RMem) (π sg : Nat → Nat) (a : AS) (hI : CI I R π sg a) (hA : AbsOk a) (p : Int) (hp : -2147483648 ≤ p ∧ p ≤ 2147483647) (t : Int) (ht : -2147483648 ≤ t ∧ t ≤ 2147483647) (l : Int) (hl : -2147483648 ≤ l ∧ l ≤ 2147483647) (L : Int) (hL : -2147483648 ≤ L ∧ L ≤ 2147483647) : CC 4 0 0 yX7_addWord cX7_addWord 7 (some .int) [.inr (some 0), .inl (p), .inl (t), .inl (l), .inl (L)] (290, ShF, I, R) (PC (aAddWord a p t l L) I) := by
  have hRO := hI.1.1
  have hcols : I 1 0 = a.1.1.1 := hI.2.1.1
  have hdist : I 1 1 = a.1.1.2.1 := hI.2.1.2.1
  have hcnt : I 1 2 = a.1.1.2.2 := hI.2.1.2.2.1
  have hW := hA.1
  have hW1 := hW.1
  have hW2 := hW.2.1
  have hW3 := hW.2.2.1
  have htail : ∀ (I1 : Mem) (R1 : RMem) (sg1 : Nat → Nat), ((0 ≤ p ∧ p ≤ a.1.1.2.2 - 1) ∧ (0 ≤ t ∧ t ≤ 1) ∧ (0 ≤ l ∧ l ≤ 25) ∧ (1 ≤ L ∧ L ≤ 30) ∧ (a.1.2.2 p.toNat).2.1 + 1 + L ≤ 80) → CI I1 R1 π sg1 (psh a) → (∀ (x : Nat) (j : Int), 290 ≤ x ∨ (1 ≤ x ∧ x < 128) → I1 x j = I x j) → ∀ (n : Nat) (i : Int) (I2 : Mem), L < i + n → 0 ≤ i → i ≤ L → PG I2 I1 (12 + 2 * π p.toNat) (13 + 2 * π p.toNat) ((a.1.2.2 p.toNat).2.1 + 1 + i) (wordF (a.1.2.2 p.toNat).2.2 (a.1.2.2 p.toNat).2.1 (if t = 1 then 9 else 32) (97 + l) L) → WW cX7_addWord RX7 7 (some .int) false 4 0 0 (PC (aAddWord a p t l L) I) 0 0 93 [some (.inr (some 0)), some (.inl p), some (.inl t), some (.inl l), some (.inl L), some (.inr (some (12 + 2 * π p.toNat))), some (.inl i)] [] (290, ShF, I2, R1) := by
    intro I1 R1 sg1 hcond hI1 hk1 n
    have hRO1 := hI1.1.1
    have hI1' : AtS I1 0 π a.1 := hI1.2.1
    have h61 := psh_6 a hA.2.1
    have hpar := rp0 hRO1 hI1.1.2.1 (i := p) (by omega)
    have hpp := hpar.2.2
    have h9 := at0_p hI1' (i := p) (by omega)
    have hwl := (hW.2.2.2.2 p.toNat (by omega)).2.1
    induction n with
    | zero => intros; exfalso; omega
    | succ n ih =>
      intro i I2 g1 g2 g3 g4
      refine r_iload dX7_addWord_93 rfl ?_
      refine r_iload dX7_addWord_95 rfl ?_
      refine r_icmpge (tgt := 115) dX7_addWord_97 (by decide) (by omega) (by omega) (fun h97 => ?_) (fun h97 => ?_)
      · refine r_aload dX7_addWord_115 rfl ?_
        refine q_getI fl_X7_113 dX7_addWord_117 hpar.2.1.1 ?_
        refine q_iretZR dX7_addWord_120 rfl ?_
        have e : aAddWord a p t l L = ((a.1.2.2 p.toNat).2.1 + 1 + L, wS (psh a) (setP a.1 p.toNat ((a.1.2.2 p.toNat).1, (a.1.2.2 p.toNat).2.1 + 1 + L, (wordF (a.1.2.2 p.toNat).2.2 (a.1.2.2 p.toNat).2.1 (if t = 1 then 9 else 32) (97 + l) L)))) := by
          unfold aAddWord
          rw [if_pos (by omega), if_neg (by omega)]
        rw [e]
        rw [show i = L by omega] at g4
        have hAt := g4.end (by omega) h9.1 (fun j h1 h2 => (h9.2.2 j (by omega) h2).trans (by unfold wordF; rw [if_neg (by omega), if_neg (by omega)]))
        exact ⟨g4.1, ⟨π, sg1, hI1.par h61 (i := p.toNat) (by omega) (fun x j h1 h2 => g4.2.2 x j h2 (by omega)) hAt⟩, fun x j h => by rw [g4.2.2 _ _ (by omega) (by omega)]; exact hk1 x j (Or.inl h)⟩
      · refine r_aload dX7_addWord_100 rfl ?_
        refine r_bipush dX7_addWord_102 (by decide) ?_
        refine r_iload_n dX7_addWord_104 rfl ?_
        refine r_iadd dX7_addWord_105 ?_
        refine q_callVW lk_X7_122 dX7_addWord_106 (c_append I2 R1 hpar.2.1 (by omega) _ (by have := g4.1; omega)) (by decide) hpar.2.1.1 rfl rfl (Nat.le_of_ble_eq_true rfl) (by decide) (fun I3 hI3 => ?_)
        refine r_iinc dX7_addWord_109 rfl (by decide) ?_
        dsimp only [lset]
        refine r_goto (tgt := 93) dX7_addWord_112 (by decide) ?_
        subst hI3
        have hst := g4.step (c := 97 + l) (by omega) (by unfold wordF; rw [if_neg (by omega), if_pos (by omega)])
        rw [show (a.1.2.2 p.toNat).2.1 + 1 + i + 1 = (a.1.2.2 p.toNat).2.1 + 1 + (i + 1) by omega] at hst
        exact ih _ _ (by omega) (by omega) (by omega) hst
  refine CC_of (own := RX7) (ini := false) (by decide +kernel) rfl (fun h => absurd h (by decide)) (Nat.le_of_ble_eq_true rfl) ?_
  show WW cX7_addWord RX7 7 (some .int) false 4 0 0 (PC (aAddWord a p t l L) I) 0 0 0 [some (.inr (some 0)), some (.inl (p)), some (.inl (t)), some (.inl (l)), some (.inl (L)), none, none] [] (290, ShF, I, R)
  refine r_aload_n dX7_addWord_0 rfl ?_
  refine r_iload_n dX7_addWord_1 rfl ?_
  refine q_callVF lk_X7_116 dX7_addWord_2 (c_isParagraph I R hRO a.1.1.2.2 hcnt hW3 p hp) (by decide) sf_0 rfl rfl (Nat.le_of_ble_eq_true rfl) (by decide) ?_
  refine q_ifeqB (tgt := 38) dX7_addWord_5 (by decide) (fun h5 => ?_) (fun h5 => ?_)
  · refine r_iconst dX7_addWord_38 ?_
    refine q_iretZR dX7_addWord_39 rfl ?_
    have e : aAddWord a p t l L = (-1, a) := by
      unfold aAddWord
      rw [if_neg (by omega)]
    rw [e]
    exact ⟨rfl, ⟨π, sg, hI⟩, fun _ _ _ => rfl⟩
  · refine r_iload_n dX7_addWord_8 rfl ?_
    refine r_iconst dX7_addWord_9 ?_
    refine r_iconst dX7_addWord_10 ?_
    refine q_callSF lk_X7_38 dX7_addWord_11 (c_isWithin I R t 0 1 ht (by decide) (by decide)) (by decide) rfl rfl (Nat.le_of_ble_eq_true rfl) (by decide) ?_
    refine q_ifeqB (tgt := 38) dX7_addWord_14 (by decide) (fun h14 => ?_) (fun h14 => ?_)
    · refine r_iconst dX7_addWord_38 ?_
      refine q_iretZR dX7_addWord_39 rfl ?_
      have e : aAddWord a p t l L = (-1, a) := by
        unfold aAddWord
        rw [if_neg (by omega)]
      rw [e]
      exact ⟨rfl, ⟨π, sg, hI⟩, fun _ _ _ => rfl⟩
    · refine r_iload_n dX7_addWord_17 rfl ?_
      refine r_iconst dX7_addWord_18 ?_
      refine r_bipush dX7_addWord_19 (by decide) ?_
      refine q_callSF lk_X7_38 dX7_addWord_21 (c_isWithin I R l 0 25 hl (by decide) (by decide)) (by decide) rfl rfl (Nat.le_of_ble_eq_true rfl) (by decide) ?_
      refine q_ifeqB (tgt := 38) dX7_addWord_24 (by decide) (fun h24 => ?_) (fun h24 => ?_)
      · refine r_iconst dX7_addWord_38 ?_
        refine q_iretZR dX7_addWord_39 rfl ?_
        have e : aAddWord a p t l L = (-1, a) := by
          unfold aAddWord
          rw [if_neg (by omega)]
        rw [e]
        exact ⟨rfl, ⟨π, sg, hI⟩, fun _ _ _ => rfl⟩
      · refine r_iload dX7_addWord_27 rfl ?_
        refine r_iconst dX7_addWord_29 ?_
        refine r_bipush dX7_addWord_30 (by decide) ?_
        refine q_callSF lk_X7_38 dX7_addWord_32 (c_isWithin I R L 1 30 hL (by decide) (by decide)) (by decide) rfl rfl (Nat.le_of_ble_eq_true rfl) (by decide) ?_
        refine q_ifneB (tgt := 40) dX7_addWord_35 (by decide) (fun h35 => ?_) (fun h35 => ?_)
        · refine r_aload_n dX7_addWord_40 rfl ?_
          refine q_getR fl_X7_12 dX7_addWord_41 sf_0 (ro_0_0 hRO) ?_
          refine q_getR fl_X7_104 dX7_addWord_44 sf_1 (ro_1_4 hRO) ?_
          refine r_iload_n dX7_addWord_47 rfl ?_
          refine q_aald (t := 4) (by decide) dX7_addWord_48 sf_3 (by omega) (rp0 hRO hI.1.2.1 (i := p) (by omega)).1 ?_
          have h90 := at0_p hI.2.1 (i := p) (by omega)
          have hwl := (hW.2.2.2.2 p.toNat (by omega)).2.1
          have hlen := h90.2.1
          refine r_astore dX7_addWord_49 (by decide) ?_
          dsimp only [lset]
          refine r_aload dX7_addWord_51 rfl ?_
          refine q_getI fl_X7_113 dX7_addWord_53 (rp0 hRO hI.1.2.1 (i := p) (by omega)).2.1.1 ?_
          rw [hlen]
          refine r_iconst dX7_addWord_56 ?_
          refine r_iadd dX7_addWord_57 ?_
          refine r_iload dX7_addWord_58 rfl ?_
          refine r_iadd dX7_addWord_60 ?_
          refine r_bipush dX7_addWord_61 (by decide) ?_
          refine r_icmple (tgt := 69) dX7_addWord_63 (by decide) (by omega) (by omega) (fun h63 => ?_) (fun h63 => ?_)
          · refine r_aload_n dX7_addWord_69 rfl ?_
            refine q_callVWR lk_X7_42 dX7_addWord_70 (c_saveState I R π sg a hI hA) (by decide) sf_0 rfl rfl (Nat.le_of_ble_eq_true rfl) (by decide) (fun I1 R1 hsv => ?_)
            obtain ⟨⟨sg1, hI1⟩, hk1, hr1⟩ := hsv
            have hRO1 := hI1.1.1
            have hI1' : AtS I1 0 π a.1 := hI1.2.1
            have h61 := psh_6 a hA.2.1
            have hpar := rp0 hRO1 hI1.1.2.1 (i := p) (by omega)
            have hpp := hpar.2.2
            have h9 := at0_p hI1' (i := p) (by omega)
            have hlen1 := h9.2.1
            have hpg0 : ∀ g : Int → Int, (∀ j : Int, 0 ≤ j → j < (a.1.2.2 p.toNat).2.1 → g j = (a.1.2.2 p.toNat).2.2 j) → PG I1 I1 (12 + 2 * π p.toNat) (13 + 2 * π p.toNat) (a.1.2.2 p.toNat).2.1 g := fun g hg => ⟨hlen1, fun j h1 => by
              by_cases hj : j < (a.1.2.2 p.toNat).2.1
              · rw [if_pos hj, hg j h1 hj]; exact h9.2.2 j h1 (by omega)
              · rw [if_neg hj], fun _ _ _ _ => rfl⟩
            refine r_aload dX7_addWord_73 rfl ?_
            refine r_iload_n dX7_addWord_75 rfl ?_
            refine r_iconst dX7_addWord_76 ?_
            refine r_icmpne (tgt := 85) dX7_addWord_77 (by decide) (by omega) (by omega) (fun h77 => ?_) (fun h77 => ?_)
            · refine r_bipush dX7_addWord_85 (by decide) ?_
              refine q_callVW lk_X7_122 dX7_addWord_87 (c_append I1 R1 hpar.2.1 (by omega) _ (by omega)) (by decide) (rp0 hRO hI.1.2.1 (i := p) (by omega)).2.1.1 rfl rfl (Nat.le_of_ble_eq_true rfl) (by decide) (fun I3 hI3 => ?_)
              refine r_iconst dX7_addWord_90 ?_
              refine r_istore dX7_addWord_91 (by decide) ?_
              dsimp only [lset]
              subst hI3
              have hst := (hpg0 (wordF (a.1.2.2 p.toNat).2.2 (a.1.2.2 p.toNat).2.1 (if t = 1 then 9 else 32) (97 + l) L) (fun j h1 h2 => by unfold wordF; rw [if_neg (by omega), if_neg (by omega)])).step (c := (if t = 1 then 9 else 32)) (by omega) (by unfold wordF; rw [if_pos rfl])
              first | rw [if_pos (show t = 1 by omega)] at hst | rw [if_neg (show ¬ t = 1 by omega)] at hst
              exact htail I1 R1 sg1 (by omega) hI1 hk1 31 0 _ (by omega) (by omega) (by omega) (by first | (rw [if_pos (show t = 1 by omega), Int.add_zero]; exact hst) | (rw [if_neg (show ¬ t = 1 by omega), Int.add_zero]; exact hst))
            · refine r_bipush dX7_addWord_80 (by decide) ?_
              refine r_goto (tgt := 87) dX7_addWord_82 (by decide) ?_
              refine q_callVW lk_X7_122 dX7_addWord_87 (c_append I1 R1 hpar.2.1 (by omega) _ (by omega)) (by decide) (rp0 hRO hI.1.2.1 (i := p) (by omega)).2.1.1 rfl rfl (Nat.le_of_ble_eq_true rfl) (by decide) (fun I3 hI3 => ?_)
              refine r_iconst dX7_addWord_90 ?_
              refine r_istore dX7_addWord_91 (by decide) ?_
              dsimp only [lset]
              subst hI3
              have hst := (hpg0 (wordF (a.1.2.2 p.toNat).2.2 (a.1.2.2 p.toNat).2.1 (if t = 1 then 9 else 32) (97 + l) L) (fun j h1 h2 => by unfold wordF; rw [if_neg (by omega), if_neg (by omega)])).step (c := (if t = 1 then 9 else 32)) (by omega) (by unfold wordF; rw [if_pos rfl])
              first | rw [if_pos (show t = 1 by omega)] at hst | rw [if_neg (show ¬ t = 1 by omega)] at hst
              exact htail I1 R1 sg1 (by omega) hI1 hk1 31 0 _ (by omega) (by omega) (by omega) (by first | (rw [if_pos (show t = 1 by omega), Int.add_zero]; exact hst) | (rw [if_neg (show ¬ t = 1 by omega), Int.add_zero]; exact hst))
          · refine r_bipush dX7_addWord_66 (by decide) ?_
            refine q_iretZR dX7_addWord_68 rfl ?_
            have e : aAddWord a p t l L = (-3, a) := by
              unfold aAddWord
              rw [if_pos (by omega), if_pos (by omega)]
            rw [e]
            exact ⟨rfl, ⟨π, sg, hI⟩, fun _ _ _ => rfl⟩
        · refine r_iconst dX7_addWord_38 ?_
          refine q_iretZR dX7_addWord_39 rfl ?_
          have e : aAddWord a p t l L = (-1, a) := by
            unfold aAddWord
            rw [if_neg (by omega)]
          rw [e]
          exact ⟨rfl, ⟨π, sg, hI⟩, fun _ _ _ => rfl⟩
set_option maxHeartbeats 4000000 in
set_option maxRecDepth 100000 in
theorem k_addAmount (I : Mem) (R : RMem) (π sg : Nat → Nat) (a : AS) (hI : CI I R π sg a) (hA : AbsOk a) (p : Int) (hp : -2147483648 ≤ p ∧ p ≤ 2147483647) (h : Int) (hh : -2147483648 ≤ h ∧ h ≤ 2147483647) : CC 4 0 0 yX7_addAmount cX7_addAmount 6 (some .int) [.inr (some 0), .inl (p), .inl (h)] (290, ShF, I, R) (PC (aAddAmount a p h) I) := by
  have hRO := hI.1.1
  have hcols : I 1 0 = a.1.1.1 := hI.2.1.1
  have hdist : I 1 1 = a.1.1.2.1 := hI.2.1.2.1
  have hcnt : I 1 2 = a.1.1.2.2 := hI.2.1.2.2.1
  have hW := hA.1
  have hW1 := hW.1
  have hW2 := hW.2.1
  have hW3 := hW.2.2.1
  have hD := dgt_in (h / 100)
  have htail : ∀ (I1 : Mem) (R1 : RMem) (sg1 : Nat → Nat), ((0 ≤ p ∧ p ≤ a.1.1.2.2 - 1) ∧ (0 ≤ h ∧ h ≤ 9999999) ∧ (a.1.2.2 p.toNat).2.1 + 4 + dgt (h / 100) ≤ 80) → CI I1 R1 π sg1 (psh a) → (∀ (x : Nat) (j : Int), 290 ≤ x ∨ (1 ≤ x ∧ x < 128) → I1 x j = I x j) → ∀ (n : Nat) (e u m : Int) (I2 : Mem), e + 1 < n → ((e = 4 ∧ u = 10000) ∨ (e = 3 ∧ u = 1000) ∨ (e = 2 ∧ u = 100) ∨ (e = 1 ∧ u = 10) ∨ (e = 0 ∧ u = 1) ∨ (e = -1 ∧ u = 0)) → ((m = dgt (h / 100) - 1 - e ∧ e ≤ dgt (h / 100) - 1) ∨ (m = 0 ∧ dgt (h / 100) - 1 < e)) → PG I2 I1 (12 + 2 * π p.toNat) (13 + 2 * π p.toNat) ((a.1.2.2 p.toNat).2.1 + 1 + m) (amtF (a.1.2.2 p.toNat).2.2 (a.1.2.2 p.toNat).2.1 h) → WW cX7_addAmount RX7 6 (some .int) false 4 0 0 (PC (aAddAmount a p h) I) 0 0 73 [some (.inr (some 0)), some (.inl p), some (.inl h), some (.inr (some (12 + 2 * π p.toNat))), some (.inl (h / 100)), some (.inl u)] [] (290, ShF, I2, R1) := by
    intro I1 R1 sg1 hcond hI1 hk1 n
    have hRO1 := hI1.1.1
    have hI1' : AtS I1 0 π a.1 := hI1.2.1
    have h61 := psh_6 a hA.2.1
    have hpar := rp0 hRO1 hI1.1.2.1 (i := p) (by omega)
    have hpp := hpar.2.2
    have h9 := at0_p hI1' (i := p) (by omega)
    have hwl := (hW.2.2.2.2 p.toNat (by omega)).2.1
    induction n with
    | zero => intros; exfalso; omega
    | succ n ih =>
      intro e u m I2 g1 g2 g3 g4
      have hg1 := g4.1
      refine r_iload dX7_addAmount_73 rfl ?_
      refine r_ifle (tgt := 116) dX7_addAmount_75 (by decide) (by omega) (fun h75 => ?_) (fun h75 => ?_)
      · refine r_aload_n dX7_addAmount_116 rfl ?_
        refine r_bipush dX7_addAmount_117 (by decide) ?_
        refine q_callVW lk_X7_122 dX7_addAmount_119 (c_append I2 R1 hpar.2.1 (by omega) _ (by omega)) (by decide) hpar.2.1.1 rfl rfl (Nat.le_of_ble_eq_true rfl) (by decide) (fun I3 hI3 => ?_)
        subst hI3
        have hs1 := g4.step (c := 46) (by omega) (by unfold amtF; rw [if_neg (by omega), if_neg (by omega), if_pos (by omega)])
        have hs1l := hs1.1
        refine r_aload_n dX7_addAmount_122 rfl ?_
        refine r_bipush dX7_addAmount_123 (by decide) ?_
        refine r_iload_n dX7_addAmount_125 rfl ?_
        refine r_bipush dX7_addAmount_126 (by decide) ?_
        refine r_idiv dX7_addAmount_128 (by omega) (by omega) ?_
        refine r_bipush dX7_addAmount_129 (by decide) ?_
        refine r_irem dX7_addAmount_131 (by omega) (by omega) ?_
        refine r_iadd dX7_addAmount_132 ?_
        refine q_callVW lk_X7_122 dX7_addAmount_133 (c_append _ R1 hpar.2.1 (by omega) _ (by omega)) (by decide) hpar.2.1.1 rfl rfl (Nat.le_of_ble_eq_true rfl) (by decide) (fun I4 hI4 => ?_)
        subst hI4
        have hs2 := hs1.step (c := 48 + h / 10 % 10) (by omega) (by unfold amtF; rw [if_neg (by omega), if_neg (by omega), if_neg (by omega), if_pos (by omega)])
        have hs2l := hs2.1
        refine r_aload_n dX7_addAmount_136 rfl ?_
        refine r_bipush dX7_addAmount_137 (by decide) ?_
        refine r_iload_n dX7_addAmount_139 rfl ?_
        refine r_bipush dX7_addAmount_140 (by decide) ?_
        refine r_irem dX7_addAmount_142 (by omega) (by omega) ?_
        refine r_iadd dX7_addAmount_143 ?_
        refine q_callVW lk_X7_122 dX7_addAmount_144 (c_append _ R1 hpar.2.1 (by omega) _ (by omega)) (by decide) hpar.2.1.1 rfl rfl (Nat.le_of_ble_eq_true rfl) (by decide) (fun I5 hI5 => ?_)
        subst hI5
        have hs3 := hs2.step (c := 48 + h % 10) (by omega) (by unfold amtF; rw [if_neg (by omega), if_neg (by omega), if_neg (by omega), if_neg (by omega), if_pos (by omega)])
        rw [show (a.1.2.2 p.toNat).2.1 + 1 + m + 1 + 1 + 1 = (a.1.2.2 p.toNat).2.1 + 4 + dgt (h / 100) by omega] at hs3
        refine r_aload_n dX7_addAmount_147 rfl ?_
        refine q_getI fl_X7_113 dX7_addAmount_148 hpar.2.1.1 ?_
        refine q_iretZR dX7_addAmount_151 rfl ?_
        have e9 : aAddAmount a p h = ((a.1.2.2 p.toNat).2.1 + 4 + dgt (h / 100), wS (psh a) (setP a.1 p.toNat ((a.1.2.2 p.toNat).1, (a.1.2.2 p.toNat).2.1 + 4 + dgt (h / 100), (amtF (a.1.2.2 p.toNat).2.2 (a.1.2.2 p.toNat).2.1 h)))) := by
          unfold aAddAmount
          rw [if_pos (by omega), if_neg (by omega)]
        rw [e9]
        have hAt := hs3.end (by omega) h9.1 (fun j h1 h2 => (h9.2.2 j (by omega) h2).trans (by unfold amtF; rw [if_neg (by omega), if_neg (by omega), if_neg (by omega), if_neg (by omega), if_neg (by omega)]))
        exact ⟨hs3.1, ⟨π, sg1, hI1.par h61 (i := p.toNat) (by omega) (fun x j h1 h2 => hs3.2.2 x j h2 (by omega)) hAt⟩, fun x j h => by rw [hs3.2.2 _ _ (by omega) (by omega)]; exact hk1 x j (Or.inl h)⟩
      · refine r_iload dX7_addAmount_78 rfl ?_
        refine r_iconst dX7_addAmount_80 ?_
        refine r_icmpeq (tgt := 91) dX7_addAmount_81 (by decide) (by omega) (by omega) (fun h81 => ?_) (fun h81 => ?_)
        · refine r_aload_n dX7_addAmount_91 rfl ?_
          refine r_bipush dX7_addAmount_92 (by decide) ?_
          refine r_iload dX7_addAmount_94 rfl ?_
          refine r_iload dX7_addAmount_96 rfl ?_
          refine r_idiv dX7_addAmount_98 (by omega) (by omega) ?_
          have hq0 : 0 ≤ h / 100 / u := Int.ediv_nonneg (by omega) (by omega)
          have hq1 : h / 100 / u ≤ h / 100 := Int.ediv_le_self _ (by omega)
          refine r_bipush dX7_addAmount_99 (by decide) ?_
          refine r_irem dX7_addAmount_101 (by omega) (by omega) ?_
          refine r_iadd dX7_addAmount_102 ?_
          refine q_callVW lk_X7_122 dX7_addAmount_103 (c_append I2 R1 hpar.2.1 (by omega) _ (by omega)) (by decide) hpar.2.1.1 rfl rfl (Nat.le_of_ble_eq_true rfl) (by decide) (fun I3 hI3 => ?_)
          subst hI3
          have hst := g4.step (c := 48 + h / 100 / u % 10) (by omega) (by
            unfold amtF dig
            rw [if_neg (by omega), if_pos (by omega)]
            rcases g2 with h | h | h | h | h | h
            · rw [if_neg (by omega), if_neg (by omega), if_neg (by omega), if_neg (by omega), h.2]
            · rw [if_neg (by omega), if_neg (by omega), if_neg (by omega), if_pos (by omega), h.2]
            · rw [if_neg (by omega), if_neg (by omega), if_pos (by omega), h.2]
            · rw [if_neg (by omega), if_pos (by omega), h.2]
            · rw [if_pos (by omega), h.2, Int.ediv_one]
            · omega)
          rw [show (a.1.2.2 p.toNat).2.1 + 1 + m + 1 = (a.1.2.2 p.toNat).2.1 + 1 + (m + 1) by omega] at hst
          refine r_iload dX7_addAmount_106 rfl ?_
          refine r_bipush dX7_addAmount_108 (by decide) ?_
          refine r_idiv dX7_addAmount_110 (by omega) (by omega) ?_
          refine r_istore dX7_addAmount_111 (by decide) ?_
          dsimp only [lset]
          refine r_goto (tgt := 73) dX7_addAmount_113 (by decide) ?_
          first | exact ih (e - 1) _ (m + 1) _ (by omega) (by omega) (by omega) hst | exact ih (e - 1) _ m _ (by omega) (by omega) (by omega) g4
        · refine r_iload dX7_addAmount_84 rfl ?_
          refine r_iload dX7_addAmount_86 rfl ?_
          refine r_icmplt (tgt := 106) dX7_addAmount_88 (by decide) (by omega) (by omega) (fun h88 => ?_) (fun h88 => ?_)
          · refine r_iload dX7_addAmount_106 rfl ?_
            refine r_bipush dX7_addAmount_108 (by decide) ?_
            refine r_idiv dX7_addAmount_110 (by omega) (by omega) ?_
            refine r_istore dX7_addAmount_111 (by decide) ?_
            dsimp only [lset]
            refine r_goto (tgt := 73) dX7_addAmount_113 (by decide) ?_
            first | exact ih (e - 1) _ (m + 1) _ (by omega) (by omega) (by omega) hst | exact ih (e - 1) _ m _ (by omega) (by omega) (by omega) g4
          · refine r_aload_n dX7_addAmount_91 rfl ?_
            refine r_bipush dX7_addAmount_92 (by decide) ?_
            refine r_iload dX7_addAmount_94 rfl ?_
            refine r_iload dX7_addAmount_96 rfl ?_
            refine r_idiv dX7_addAmount_98 (by omega) (by omega) ?_
            have hq0 : 0 ≤ h / 100 / u := Int.ediv_nonneg (by omega) (by omega)
            have hq1 : h / 100 / u ≤ h / 100 := Int.ediv_le_self _ (by omega)
            refine r_bipush dX7_addAmount_99 (by decide) ?_
            refine r_irem dX7_addAmount_101 (by omega) (by omega) ?_
            refine r_iadd dX7_addAmount_102 ?_
            refine q_callVW lk_X7_122 dX7_addAmount_103 (c_append I2 R1 hpar.2.1 (by omega) _ (by omega)) (by decide) hpar.2.1.1 rfl rfl (Nat.le_of_ble_eq_true rfl) (by decide) (fun I3 hI3 => ?_)
            subst hI3
            have hst := g4.step (c := 48 + h / 100 / u % 10) (by omega) (by
              unfold amtF dig
              rw [if_neg (by omega), if_pos (by omega)]
              rcases g2 with h | h | h | h | h | h
              · rw [if_neg (by omega), if_neg (by omega), if_neg (by omega), if_neg (by omega), h.2]
              · rw [if_neg (by omega), if_neg (by omega), if_neg (by omega), if_pos (by omega), h.2]
              · rw [if_neg (by omega), if_neg (by omega), if_pos (by omega), h.2]
              · rw [if_neg (by omega), if_pos (by omega), h.2]
              · rw [if_pos (by omega), h.2, Int.ediv_one]
              · omega)
            rw [show (a.1.2.2 p.toNat).2.1 + 1 + m + 1 = (a.1.2.2 p.toNat).2.1 + 1 + (m + 1) by omega] at hst
            refine r_iload dX7_addAmount_106 rfl ?_
            refine r_bipush dX7_addAmount_108 (by decide) ?_
            refine r_idiv dX7_addAmount_110 (by omega) (by omega) ?_
            refine r_istore dX7_addAmount_111 (by decide) ?_
            dsimp only [lset]
            refine r_goto (tgt := 73) dX7_addAmount_113 (by decide) ?_
            first | exact ih (e - 1) _ (m + 1) _ (by omega) (by omega) (by omega) hst | exact ih (e - 1) _ m _ (by omega) (by omega) (by omega) g4
  refine CC_of (own := RX7) (ini := false) (by decide +kernel) rfl (fun h => absurd h (by decide)) (Nat.le_of_ble_eq_true rfl) ?_
  show WW cX7_addAmount RX7 6 (some .int) false 4 0 0 (PC (aAddAmount a p h) I) 0 0 0 [some (.inr (some 0)), some (.inl (p)), some (.inl (h)), none, none, none] [] (290, ShF, I, R)
  refine r_aload_n dX7_addAmount_0 rfl ?_
  refine r_iload_n dX7_addAmount_1 rfl ?_
  refine q_callVF lk_X7_116 dX7_addAmount_2 (c_isParagraph I R hRO a.1.1.2.2 hcnt hW3 p hp) (by decide) sf_0 rfl rfl (Nat.le_of_ble_eq_true rfl) (by decide) ?_
  refine q_ifeqB (tgt := 18) dX7_addAmount_5 (by decide) (fun h5 => ?_) (fun h5 => ?_)
  · refine r_iconst dX7_addAmount_18 ?_
    refine q_iretZR dX7_addAmount_19 rfl ?_
    have e : aAddAmount a p h = (-1, a) := by
      unfold aAddAmount
      rw [if_neg (by omega)]
    rw [e]
    exact ⟨rfl, ⟨π, sg, hI⟩, fun _ _ _ => rfl⟩
  · refine r_iload_n dX7_addAmount_8 rfl ?_
    refine r_iconst dX7_addAmount_9 ?_
    refine q_ldc (z := 9999999) co_X7_125 rfl dX7_addAmount_10 ?_
    refine q_callSF lk_X7_38 dX7_addAmount_12 (c_isWithin I R h 0 9999999 hh (by decide) (by decide)) (by decide) rfl rfl (Nat.le_of_ble_eq_true rfl) (by decide) ?_
    refine q_ifneB (tgt := 20) dX7_addAmount_15 (by decide) (fun h15 => ?_) (fun h15 => ?_)
    · refine r_aload_n dX7_addAmount_20 rfl ?_
      refine q_getR fl_X7_12 dX7_addAmount_21 sf_0 (ro_0_0 hRO) ?_
      refine q_getR fl_X7_104 dX7_addAmount_24 sf_1 (ro_1_4 hRO) ?_
      refine r_iload_n dX7_addAmount_27 rfl ?_
      refine q_aald (t := 4) (by decide) dX7_addAmount_28 sf_3 (by omega) (rp0 hRO hI.1.2.1 (i := p) (by omega)).1 ?_
      have h90 := at0_p hI.2.1 (i := p) (by omega)
      have hwl := (hW.2.2.2.2 p.toNat (by omega)).2.1
      have hlen := h90.2.1
      refine r_astore_n dX7_addAmount_29 (by decide) ?_
      dsimp only [lset]
      refine r_iload_n dX7_addAmount_30 rfl ?_
      refine r_bipush dX7_addAmount_31 (by decide) ?_
      refine r_idiv dX7_addAmount_33 (by omega) (by omega) ?_
      refine r_istore dX7_addAmount_34 (by decide) ?_
      dsimp only [lset]
      refine r_aload_n dX7_addAmount_36 rfl ?_
      refine q_getI fl_X7_113 dX7_addAmount_37 (rp0 hRO hI.1.2.1 (i := p) (by omega)).2.1.1 ?_
      rw [hlen]
      refine r_iconst dX7_addAmount_40 ?_
      refine r_iadd dX7_addAmount_41 ?_
      refine r_iload dX7_addAmount_42 rfl ?_
      refine q_callSF lk_X7_126 dX7_addAmount_44 (c_digitsOf I R (h / 100) (by omega)) (by decide) rfl rfl (Nat.le_of_ble_eq_true rfl) (by decide) ?_
      refine r_iadd dX7_addAmount_47 ?_
      refine r_iconst dX7_addAmount_48 ?_
      refine r_iadd dX7_addAmount_49 ?_
      refine r_bipush dX7_addAmount_50 (by decide) ?_
      refine r_icmple (tgt := 58) dX7_addAmount_52 (by decide) (by omega) (by omega) (fun h52 => ?_) (fun h52 => ?_)
      · refine r_aload_n dX7_addAmount_58 rfl ?_
        refine q_callVWR lk_X7_42 dX7_addAmount_59 (c_saveState I R π sg a hI hA) (by decide) sf_0 rfl rfl (Nat.le_of_ble_eq_true rfl) (by decide) (fun I1 R1 hsv => ?_)
        obtain ⟨⟨sg1, hI1⟩, hk1, hr1⟩ := hsv
        have hRO1 := hI1.1.1
        have hI1' : AtS I1 0 π a.1 := hI1.2.1
        have h61 := psh_6 a hA.2.1
        have hpar := rp0 hRO1 hI1.1.2.1 (i := p) (by omega)
        have hpp := hpar.2.2
        have h9 := at0_p hI1' (i := p) (by omega)
        have hlen1 := h9.2.1
        have hpg0 : ∀ g : Int → Int, (∀ j : Int, 0 ≤ j → j < (a.1.2.2 p.toNat).2.1 → g j = (a.1.2.2 p.toNat).2.2 j) → PG I1 I1 (12 + 2 * π p.toNat) (13 + 2 * π p.toNat) (a.1.2.2 p.toNat).2.1 g := fun g hg => ⟨hlen1, fun j h1 => by
          by_cases hj : j < (a.1.2.2 p.toNat).2.1
          · rw [if_pos hj, hg j h1 hj]; exact h9.2.2 j h1 (by omega)
          · rw [if_neg hj], fun _ _ _ _ => rfl⟩
        refine r_aload_n dX7_addAmount_62 rfl ?_
        refine r_bipush dX7_addAmount_63 (by decide) ?_
        refine q_callVW lk_X7_122 dX7_addAmount_65 (c_append I1 R1 hpar.2.1 (by omega) _ (by omega)) (by decide) (rp0 hRO hI.1.2.1 (i := p) (by omega)).2.1.1 rfl rfl (Nat.le_of_ble_eq_true rfl) (by decide) (fun I3 hI3 => ?_)
        refine r_sipush dX7_addAmount_68 (by decide) ?_
        refine r_istore dX7_addAmount_71 (by decide) ?_
        dsimp only [lset]
        subst hI3
        have hst := (hpg0 (amtF (a.1.2.2 p.toNat).2.2 (a.1.2.2 p.toNat).2.1 h) (fun j h1 h2 => by unfold amtF; rw [if_neg (by omega), if_neg (by omega), if_neg (by omega), if_neg (by omega), if_neg (by omega)])).step (c := 9) (by omega) (by unfold amtF; rw [if_pos rfl])
        exact htail I1 R1 sg1 (by omega) hI1 hk1 6 4 _ 0 _ (by omega) (by omega) (by omega) (by rw [Int.add_zero]; exact hst)
      · refine r_bipush dX7_addAmount_55 (by decide) ?_
        refine q_iretZR dX7_addAmount_57 rfl ?_
        have e : aAddAmount a p h = (-3, a) := by
          unfold aAddAmount
          rw [if_pos (by omega), if_pos (by omega)]
        rw [e]
        exact ⟨rfl, ⟨π, sg, hI⟩, fun _ _ _ => rfl⟩
    · refine r_iconst dX7_addAmount_18 ?_
      refine q_iretZR dX7_addAmount_19 rfl ?_
      have e : aAddAmount a p h = (-1, a) := by
        unfold aAddAmount
        rw [if_neg (by omega)]
      rw [e]
      exact ⟨rfl, ⟨π, sg, hI⟩, fun _ _ _ => rfl⟩
