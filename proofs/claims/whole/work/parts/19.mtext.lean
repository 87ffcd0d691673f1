/-! texts and words: the other object -/
theorem bm_eq (c : Int) (h : 0 ≤ c ∧ c ≤ 255) : (c ≤ 127 → c.bmod 256 = c) ∧ (128 ≤ c → c.bmod 256 = c - 256) := by
  unfold Int.bmod
  constructor
  · intro h1
    rw [if_pos (by omega)]
    omega
  · intro h1
    rw [if_neg (by omega)]
    omega
/-- a paragraph that grows: n of its characters stand as g has them -/
def QG (I I1 : Mem) (p n : Int) (g : Int → Int) : Prop := I 291 (111 + 82 * p + 1) = n ∧ (∀ j : Int, 0 ≤ j → j < n → I 291 (111 + 82 * p + (2 + j)) = g j) ∧ ∀ (x : Nat) (q : Int), ¬ (x = 291 ∧ 111 + 82 * p + 1 ≤ q ∧ q < 111 + 82 * p + 82) → I x q = I1 x q
theorem QG.step {I I1 : Mem} {p n c : Int} {g : Int → Int} (h : QG I I1 p n g) (hn : 0 ≤ n ∧ n ≤ 79) (hc : g n = c) : QG (u2 (u2 I 291 (111 + 82 * p + 2 + I 291 (111 + 82 * p + 1)) c) 291 (111 + 82 * p + 1) (I 291 (111 + 82 * p + 1) + 1)) I1 p (n + 1) g := by
  refine ⟨by rw [u2_s, h.1], fun j h1 h2 => ?_, fun x q hx => by rw [u2_n (by omega), u2_n (by rw [h.1]; omega)]; exact h.2.2 x q hx⟩
  rw [u2_n (Or.inr (by omega)), u2_at, h.1]
  by_cases hj : j = n
  · rw [if_pos ⟨rfl, by omega⟩, hj, hc]
  · rw [if_neg (by omega)]
    exact h.2.1 j h1 (by omega)
theorem QG.end {I I1 : Mem} {a : AS} (hM : MI I1 a) {p n : Int} {g : Int → Int} (h : QG I I1 p n g) (hp : 0 ≤ p ∧ p ≤ a.1.1.2.2 - 1) (hn : 0 ≤ n ∧ n ≤ 80) (hg : ∀ j : Int, 0 ≤ j → j < n → okc (g j)) : MI I (wS a (setP a.1 p.toNat ((a.1.2.2 p.toNat).1, n, g))) := by
  have hP := hM.2.1.2.2.2.2 p hp.1 (by omega)
  have hw := hM.1.1.2.2.2.2 p.toNat (by omega)
  refine hM.par hp ⟨hw.1, hn, hg⟩ ⟨?_, h.1, h.2.1⟩ (fun x q hx => h.2.2 x q (by omega))
  show I 291 (111 + 82 * p + 0) = _
  rw [h.2.2 _ _ (by omega)]
  exact hP.1
set_option maxHeartbeats 4000000 in
set_option maxRecDepth 100000 in
theorem m_isWritten (I : Mem) (R : RMem) (c : Int) (hc : -2147483648 ≤ c ∧ c ≤ 2147483647) : CC 2 0 0 yX8_isWritten cX8_isWritten 1 (some .boolean) [.inl (c)] (298, ShF, I, R) (PF (b2i ((97 ≤ c ∧ c ≤ 122) ∨ (48 ≤ c ∧ c ≤ 57) ∨ c = 46 ∨ c = 44)) I R) := by
  refine CC_of (own := RX8) (ini := false) (by decide +kernel) rfl (fun h => absurd h (by decide)) (Nat.le_of_ble_eq_true rfl) ?_
  show WW cX8_isWritten RX8 1 (some .boolean) false 2 0 0 (PF (b2i ((97 ≤ c ∧ c ≤ 122) ∨ (48 ≤ c ∧ c ≤ 57) ∨ c = 46 ∨ c = 44)) I R) 0 0 0 [some (.inl (c))] [] (298, ShF, I, R)
  refine r_iload_n dX8_isWritten_0 rfl ?_
  refine r_bipush dX8_isWritten_1 (by decide) ?_
  refine r_bipush dX8_isWritten_3 (by decide) ?_
  refine q_callSF lk_X8_36 dX8_isWritten_5 (c_in I R c 97 122 hc (by decide) (by decide)) (by decide) rfl rfl (Nat.le_of_ble_eq_true rfl) (by decide) ?_
  refine q_ifneB (tgt := 34) dX8_isWritten_8 (by decide) (fun h8 => ?_) (fun h8 => ?_)
  · refine r_iconst dX8_isWritten_34 ?_
    refine r_goto (tgt := 39) dX8_isWritten_35 (by decide) ?_
    refine q_zretF dX8_isWritten_39 rfl (by decide) ?_
    first | exact b2i_t (by omega) | exact b2i_f (by omega)
  · refine r_iload_n dX8_isWritten_11 rfl ?_
    refine r_bipush dX8_isWritten_12 (by decide) ?_
    refine r_bipush dX8_isWritten_14 (by decide) ?_
    refine q_callSF lk_X8_36 dX8_isWritten_16 (c_in I R c 48 57 hc (by decide) (by decide)) (by decide) rfl rfl (Nat.le_of_ble_eq_true rfl) (by decide) ?_
    refine q_ifneB (tgt := 34) dX8_isWritten_19 (by decide) (fun h19 => ?_) (fun h19 => ?_)
    · refine r_iconst dX8_isWritten_34 ?_
      refine r_goto (tgt := 39) dX8_isWritten_35 (by decide) ?_
      refine q_zretF dX8_isWritten_39 rfl (by decide) ?_
      first | exact b2i_t (by omega) | exact b2i_f (by omega)
    · refine r_iload_n dX8_isWritten_22 rfl ?_
      refine r_bipush dX8_isWritten_23 (by decide) ?_
      refine r_icmpeq (tgt := 34) dX8_isWritten_25 (by decide) (by omega) (by omega) (fun h25 => ?_) (fun h25 => ?_)
      · refine r_iconst dX8_isWritten_34 ?_
        refine r_goto (tgt := 39) dX8_isWritten_35 (by decide) ?_
        refine q_zretF dX8_isWritten_39 rfl (by decide) ?_
        first | exact b2i_t (by omega) | exact b2i_f (by omega)
      · refine r_iload_n dX8_isWritten_28 rfl ?_
        refine r_bipush dX8_isWritten_29 (by decide) ?_
        refine r_icmpne (tgt := 38) dX8_isWritten_31 (by decide) (by omega) (by omega) (fun h31 => ?_) (fun h31 => ?_)
        · refine r_iconst dX8_isWritten_38 ?_
          refine q_zretF dX8_isWritten_39 rfl (by decide) ?_
          first | exact b2i_t (by omega) | exact b2i_f (by omega)
        · refine r_iconst dX8_isWritten_34 ?_
          refine r_goto (tgt := 39) dX8_isWritten_35 (by decide) ?_
          refine q_zretF dX8_isWritten_39 rfl (by decide) ?_
          first | exact b2i_t (by omega) | exact b2i_f (by omega)
set_option maxHeartbeats 4000000 in
set_option maxRecDepth 100000 in
theorem m_adds (I : Mem) (R : RMem) (hRO : RefOk R) (p c : Int) (hp : 0 ≤ p ∧ p ≤ 7) (hl : 0 ≤ I 291 (111 + 82 * p + 1) ∧ I 291 (111 + 82 * p + 1) ≤ 79) : CC 2 0 0 yX8_adds cX8_adds 4 none [.inr (some 290), .inl (p), .inl (c)] (298, ShF, I, R) (PW R (fun I1 => I1 = u2 (u2 I 291 (111 + 82 * p + 2 + I 291 (111 + 82 * p + 1)) c) 291 (111 + 82 * p + 1) (I 291 (111 + 82 * p + 1) + 1))) := by
  refine CC_of (own := RX8) (ini := false) (by decide +kernel) rfl (fun h => absurd h (by decide)) (Nat.le_of_ble_eq_true rfl) ?_
  show WW cX8_adds RX8 4 none false 2 0 0 (PW R (fun I1 => I1 = u2 (u2 I 291 (111 + 82 * p + 2 + I 291 (111 + 82 * p + 1)) c) 291 (111 + 82 * p + 1) (I 291 (111 + 82 * p + 1) + 1))) 0 0 0 [some (.inr (some 290)), some (.inl (p)), some (.inl (c)), none] [] (298, ShF, I, R)
  refine r_iload_n dX8_adds_0 rfl ?_
  refine q_callSF lk_X8_93 dX8_adds_1 (m_own I R p) (by decide) rfl rfl (Nat.le_of_ble_eq_true rfl) (by decide) ?_
  refine r_istore_n dX8_adds_4 (by decide) ?_
  dsimp only [lset]
  refine r_aload_n dX8_adds_5 rfl ?_
  refine q_getR fl_X8_7 dX8_adds_6 sf_290 (ro_290_0 hRO) ?_
  refine r_iload_n dX8_adds_9 rfl ?_
  refine r_iconst dX8_adds_10 ?_
  refine r_iadd dX8_adds_11 ?_
  refine r_aload_n dX8_adds_12 rfl ?_
  refine q_getR fl_X8_7 dX8_adds_13 sf_290 (ro_290_0 hRO) ?_
  refine r_iload_n dX8_adds_16 rfl ?_
  refine r_iconst dX8_adds_17 ?_
  refine r_iadd dX8_adds_18 ?_
  refine q_iald dX8_adds_19 sf_291 (by omega) ?_
  refine r_iadd dX8_adds_20 ?_
  refine r_iload_n dX8_adds_21 rfl ?_
  refine q_iast dX8_adds_22 sf_291 (by omega) ?_
  refine r_aload_n dX8_adds_23 rfl ?_
  refine q_getR fl_X8_7 dX8_adds_24 sf_290 (ro_290_0 hRO) ?_
  refine r_iload_n dX8_adds_27 rfl ?_
  refine r_iconst dX8_adds_28 ?_
  refine r_iadd dX8_adds_29 ?_
  refine r_dup2 dX8_adds_30 ?_
  refine q_iald dX8_adds_31 sf_291 (by omega) ?_
  rw [u2_n (Or.inr (by omega))]
  refine r_iconst dX8_adds_32 ?_
  refine r_iadd dX8_adds_33 ?_
  refine q_iast dX8_adds_34 sf_291 (by omega) ?_
  refine q_vretW dX8_adds_35 rfl ?_
  rfl
set_option maxHeartbeats 4000000 in
set_option maxRecDepth 100000 in
theorem m_takeText (I : Mem) (R : RMem) (hRO : RefOk R) (a : AS) (hM : MI I a) (p : Int) (hp : -2147483648 ≤ p ∧ p ≤ 2147483647) : CC 3 0 0 yX8_takeText cX8_takeText 4 (some .int) [.inr (some 290), .inl (p)] (298, ShF, I, R) (PM (aTakeText a p) I R) := by
  have hA := hM.1
  have hW := hA.1
  have hW1 := hW.1
  have hW2 := hW.2.1
  have hW3 := hW.2.2.1
  have hS := hM.2.1
  have htl := hM.2.2.2.2.1
  have htl2 := hA.2.2.2.1
  have htail : ∀ (I1 : Mem), (0 ≤ p ∧ p ≤ a.1.1.2.2 - 1) → fbad a.2.2.2.2 a.2.2.2.1 = -1 → ¬ 80 < a.2.2.2.1 → MI I1 (psh a) → (∀ (x : Nat) (j : Int), x ≠ 292 → ¬ (x = 290 ∧ j = 2) → I1 x j = I x j) → ∀ (n : Nat) (k : Int) (I2 : Mem), a.2.2.2.1 < k + n → 0 ≤ k → k ≤ a.2.2.2.1 → (∀ j : Int, 0 ≤ j → j < k → I2 291 (111 + 82 * p + (2 + j)) = a.2.2.2.2 j) → (∀ (x : Nat) (q : Int), ¬ (x = 291 ∧ 111 + 82 * p + 2 ≤ q ∧ q < 111 + 82 * p + 82) → I2 x q = I1 x q) → WW cX8_takeText RX8 4 (some .int) false 3 0 0 (PM (aTakeText a p) I R) 0 0 89 [some (.inr (some 290)), some (.inl p), some (.inl (111 + 82 * p)), some (.inl k)] [] (298, ShF, I2, R) := by
    intro I1 hp1 hfb h80 hM1 hk1 n
    induction n with
    | zero => intros; exfalso; omega
    | succ n ih =>
      intro k I2 g1 g2 g3 g4 g5
      have ht : I2 290 4 = a.2.2.2.1 := by rw [g5 _ _ (by omega)]; exact hM1.2.2.2.2.1
      refine r_iload_n dX8_takeText_89 rfl ?_
      refine r_aload_n dX8_takeText_90 rfl ?_
      refine q_getI fl_X8_66 dX8_takeText_91 sf_290 ?_
      rw [ht]
      refine r_icmpge (tgt := 119) dX8_takeText_94 (by decide) (by omega) (by omega) (fun h94 => ?_) (fun h94 => ?_)
      · refine r_aload_n dX8_takeText_119 rfl ?_
        refine q_getR fl_X8_7 dX8_takeText_120 sf_290 (ro_290_0 hRO) ?_
        refine r_iload_n dX8_takeText_123 rfl ?_
        refine r_iconst dX8_takeText_124 ?_
        refine r_iadd dX8_takeText_125 ?_
        refine r_aload_n dX8_takeText_126 rfl ?_
        refine q_getI fl_X8_66 dX8_takeText_127 sf_290 ?_
        rw [ht]
        refine q_iast dX8_takeText_130 sf_291 (by omega) ?_
        refine r_aload_n dX8_takeText_131 rfl ?_
        refine r_iconst dX8_takeText_132 ?_
        refine q_putI fl_X8_66 dX8_takeText_133 sf_290 ?_
        refine r_aload_n dX8_takeText_136 rfl ?_
        refine q_getR fl_X8_7 dX8_takeText_137 sf_290 (ro_290_0 hRO) ?_
        refine r_iload_n dX8_takeText_140 rfl ?_
        refine r_iconst dX8_takeText_141 ?_
        refine r_iadd dX8_takeText_142 ?_
        refine q_iald dX8_takeText_143 sf_291 (by omega) ?_
        refine q_iretZ dX8_takeText_144 rfl ?_
        have e : aTakeText a p = ((a.2.2.2.1 : Int), clr (wS (psh a) (setP a.1 p.toNat ((a.1.2.2 p.toNat).1, (a.2.2.2.1 : Int), mixF a.2.2.2.2 a.2.2.2.1 (a.1.2.2 p.toNat).2.2)))) := by
          unfold aTakeText
          rw [if_pos (by omega), if_neg (by omega), if_neg h80]
        rw [e]
        have hi : k = a.2.2.2.1 := by omega
        have hQ : QG (u2 I2 291 (111 + 82 * p + 1) (a.2.2.2.1 : Int)) I1 p a.2.2.2.1 (mixF a.2.2.2.2 a.2.2.2.1 (a.1.2.2 p.toNat).2.2) := ⟨u2_s, fun j h1 h2 => by
          rw [u2_n (Or.inr (by omega)), g4 j h1 (by omega)]
          exact (if_pos ⟨h1, h2⟩).symm, fun x q hx => by rw [u2_n (by omega)]; exact g5 x q (by omega)⟩
        have hE := (hQ.end (a := psh a) hM1 (by show 0 ≤ p ∧ p ≤ a.1.1.2.2 - 1; omega) (by omega) (fun j h1 h2 => by
          show okc (if 0 ≤ j ∧ j < (a.2.2.2.1 : Int) then a.2.2.2.2 j else _)
          rw [if_pos ⟨h1, h2⟩]
          exact fbad_ok _ hfb j h1 h2)).clr
        refine ⟨by rw [u2_n (Or.inl (by omega)), u2_s], hE, fun x j h => ?_⟩
        rw [u2_n (by omega), u2_n (by omega), g5 _ _ (by omega)]
        exact hk1 x j (by omega) (by omega)
      · refine r_aload_n dX8_takeText_97 rfl ?_
        refine q_getR fl_X8_7 dX8_takeText_98 sf_290 (ro_290_0 hRO) ?_
        refine r_iload_n dX8_takeText_101 rfl ?_
        refine r_iconst dX8_takeText_102 ?_
        refine r_iadd dX8_takeText_103 ?_
        refine r_iload_n dX8_takeText_104 rfl ?_
        refine r_iadd dX8_takeText_105 ?_
        refine r_aload_n dX8_takeText_106 rfl ?_
        refine q_getR fl_X8_16 dX8_takeText_107 sf_290 (ro_290_3 hRO) ?_
        refine r_iload_n dX8_takeText_110 rfl ?_
        have hok : okc (a.2.2.2.2 k) := fbad_ok _ hfb k (by omega) (by omega)
        have hr8 := hA.2.2.2.2 k (by omega) (by omega)
        have hbe := (bm_eq (a.2.2.2.2 k) hr8).1 (by unfold okc at hok; omega)
        have hrd : I2 293 k = a.2.2.2.2 k := by rw [g5 _ _ (by omega)]; exact (hM1.2.2.2.2.2 k (by omega) (by show k < (a.2.2.2.1 : Int); omega)).trans hbe
        refine q_bald dX8_takeText_111 sf_293 (by omega) ?_
        rw [hrd]
        refine q_iast dX8_takeText_112 sf_291 (by omega) ?_
        refine r_iinc dX8_takeText_113 rfl (by decide) ?_
        dsimp only [lset]
        refine r_goto (tgt := 89) dX8_takeText_116 (by decide) ?_
        refine ih _ _ (by omega) (by omega) (by omega) (fun j h1 h2 => ?_) (fun x q h => by rw [u2_n (by omega)]; exact g5 x q h)
        rw [u2_at]
        by_cases hj : j = k
        · rw [if_pos ⟨rfl, by omega⟩, hj]
        · rw [if_neg (by omega)]
          exact g4 j h1 (by omega)
  have hloop : ∀ (n : Nat) (k : Int), a.2.2.2.1 < k + n → 0 ≤ k → k ≤ a.2.2.2.1 → fbad a.2.2.2.2 k.toNat = -1 → (0 ≤ p ∧ p ≤ a.1.1.2.2 - 1) → WW cX8_takeText RX8 4 (some .int) false 3 0 0 (PM (aTakeText a p) I R) 0 0 12 [some (.inr (some 290)), some (.inl (p)), some (.inl (k)), none] [] (298, ShF, I, R) := by
    intro n
    induction n with
    | zero => intros; exfalso; omega
    | succ n ih =>
      intro k g1 g2 g3 g4 g5
      refine r_iload_n dX8_takeText_12 rfl ?_
      refine r_aload_n dX8_takeText_13 rfl ?_
      refine q_getI fl_X8_66 dX8_takeText_14 sf_290 ?_
      rw [htl]
      refine r_icmpge (tgt := 66) dX8_takeText_17 (by decide) (by omega) (by omega) (fun h17 => ?_) (fun h17 => ?_)
      · refine r_aload_n dX8_takeText_66 rfl ?_
        refine q_getI fl_X8_66 dX8_takeText_67 sf_290 ?_
        rw [htl]
        have hi : k = a.2.2.2.1 := by omega
        have hfb : fbad a.2.2.2.2 a.2.2.2.1 = -1 := by
          rw [hi, Int.toNat_natCast] at g4
          exact g4
        refine r_bipush dX8_takeText_70 (by decide) ?_
        refine r_icmple (tgt := 78) dX8_takeText_72 (by decide) (by omega) (by omega) (fun h72 => ?_) (fun h72 => ?_)
        · refine r_aload_n dX8_takeText_78 rfl ?_
          refine q_callVW lk_X8_47 dX8_takeText_79 (m_notes I R hRO a hM) (by decide) sf_290 rfl rfl (Nat.le_of_ble_eq_true rfl) (by decide) (fun I1 hnt => ?_)
          obtain ⟨hM1, hk1⟩ := hnt
          have hS1 : AtM (I1 291) a.1 := hM1.2.1
          refine r_iload_n dX8_takeText_82 rfl ?_
          refine q_callSF lk_X8_93 dX8_takeText_83 (m_own I1 R p) (by decide) rfl rfl (Nat.le_of_ble_eq_true rfl) (by decide) ?_
          refine r_istore_n dX8_takeText_86 (by decide) ?_
          dsimp only [lset]
          refine r_iconst dX8_takeText_87 ?_
          refine r_istore_n dX8_takeText_88 (by decide) ?_
          dsimp only [lset]
          exact htail I1 g5 hfb (by omega) hM1 hk1 101 0 _ (by omega) (by omega) (by omega) (fun j h1 h2 => by omega) (fun _ _ _ => rfl)
        · refine r_bipush dX8_takeText_75 (by decide) ?_
          refine q_iretZ dX8_takeText_77 rfl ?_
          have e : aTakeText a p = (-3, a) := by
            unfold aTakeText
            rw [if_pos (by omega), if_neg (by omega), if_pos (by omega)]
          rw [e]
          exact ⟨rfl, hM, fun _ _ _ => rfl⟩
      · refine r_aload_n dX8_takeText_20 rfl ?_
        refine q_getR fl_X8_16 dX8_takeText_21 sf_290 (ro_290_3 hRO) ?_
        refine r_iload_n dX8_takeText_24 rfl ?_
        have hr8 := hA.2.2.2.2 k (by omega) (by omega)
        have hbe := bm_eq (a.2.2.2.2 k) hr8
        have hrd := hM.2.2.2.2.2 k (by omega) (by omega)
        have hst : fbad a.2.2.2.2 (k.toNat + 1) = if okc (a.2.2.2.2 k) then -1 else k := by
          show (if fbad a.2.2.2.2 k.toNat ≠ -1 then fbad a.2.2.2.2 k.toNat else if okc (a.2.2.2.2 k.toNat) then -1 else (k.toNat : Int)) = _
          rw [if_neg (by omega), show ((k.toNat : Nat) : Int) = k by omega]
        refine q_bald dX8_takeText_25 sf_293 (by omega) ?_
        rw [hrd]
        refine q_callSF lk_X8_99 dX8_takeText_26 (m_isWritten I R ((a.2.2.2.2 k).bmod 256) (by omega)) (by decide) rfl rfl (Nat.le_of_ble_eq_true rfl) (by decide) ?_
        refine q_ifneB (tgt := 60) dX8_takeText_29 (by decide) (fun h29 => ?_) (fun h29 => ?_)
        · refine r_iinc dX8_takeText_60 rfl (by decide) ?_
          dsimp only [lset]
          refine r_goto (tgt := 12) dX8_takeText_63 (by decide) ?_
          have hok : okc (a.2.2.2.2 k) := by unfold okc; omega
          rw [if_pos hok] at hst
          exact ih _ (by omega) (by omega) (by omega) (by rw [show (k + 1).toNat = k.toNat + 1 by omega]; exact hst) g5
        · refine r_aload_n dX8_takeText_32 rfl ?_
          refine q_getR fl_X8_16 dX8_takeText_33 sf_290 (ro_290_3 hRO) ?_
          refine r_iload_n dX8_takeText_36 rfl ?_
          refine q_bald dX8_takeText_37 sf_293 (by omega) ?_
          rw [hrd]
          refine r_bipush dX8_takeText_38 (by decide) ?_
          refine r_icmpeq (tgt := 60) dX8_takeText_40 (by decide) (by omega) (by omega) (fun h40 => ?_) (fun h40 => ?_)
          · refine r_iinc dX8_takeText_60 rfl (by decide) ?_
            dsimp only [lset]
            refine r_goto (tgt := 12) dX8_takeText_63 (by decide) ?_
            have hok : okc (a.2.2.2.2 k) := by unfold okc; omega
            rw [if_pos hok] at hst
            exact ih _ (by omega) (by omega) (by omega) (by rw [show (k + 1).toNat = k.toNat + 1 by omega]; exact hst) g5
          · refine r_aload_n dX8_takeText_43 rfl ?_
            refine q_getR fl_X8_16 dX8_takeText_44 sf_290 (ro_290_3 hRO) ?_
            refine r_iload_n dX8_takeText_47 rfl ?_
            refine q_bald dX8_takeText_48 sf_293 (by omega) ?_
            rw [hrd]
            refine r_bipush dX8_takeText_49 (by decide) ?_
            refine r_icmpeq (tgt := 60) dX8_takeText_51 (by decide) (by omega) (by omega) (fun h51 => ?_) (fun h51 => ?_)
            · refine r_iinc dX8_takeText_60 rfl (by decide) ?_
              dsimp only [lset]
              refine r_goto (tgt := 12) dX8_takeText_63 (by decide) ?_
              have hok : okc (a.2.2.2.2 k) := by unfold okc; omega
              rw [if_pos hok] at hst
              exact ih _ (by omega) (by omega) (by omega) (by rw [show (k + 1).toNat = k.toNat + 1 by omega]; exact hst) g5
            · refine r_sipush dX8_takeText_54 (by decide) ?_
              refine r_iload_n dX8_takeText_57 rfl ?_
              refine r_isub dX8_takeText_58 ?_
              refine q_iretZ dX8_takeText_59 rfl ?_
              have hno : ¬ okc (a.2.2.2.2 k) := by unfold okc; omega
              rw [if_neg hno] at hst
              have hkeep := fbad_keep (tx := a.2.2.2.2) (m := k.toNat + 1) (by omega) a.2.2.2.1 (by omega)
              have e : aTakeText a p = (-2000 - k, a) := by
                unfold aTakeText
                rw [if_pos (by omega), if_pos (by omega), hkeep, hst]
              rw [e]
              exact ⟨rfl, hM, fun _ _ _ => rfl⟩
  refine CC_of (own := RX8) (ini := false) (by decide +kernel) rfl (fun h => absurd h (by decide)) (Nat.le_of_ble_eq_true rfl) ?_
  show WW cX8_takeText RX8 4 (some .int) false 3 0 0 (PM (aTakeText a p) I R) 0 0 0 [some (.inr (some 290)), some (.inl (p)), none, none] [] (298, ShF, I, R)
  refine r_aload_n dX8_takeText_0 rfl ?_
  refine r_iload_n dX8_takeText_1 rfl ?_
  refine q_callVF lk_X8_96 dX8_takeText_2 (m_isParagraph I R hRO a.1.1.2.2 hS.2.2.1 hW3 p hp) (by decide) sf_290 rfl rfl (Nat.le_of_ble_eq_true rfl) (by decide) ?_
  refine q_ifneB (tgt := 10) dX8_takeText_5 (by decide) (fun h5 => ?_) (fun h5 => ?_)
  · refine r_iconst dX8_takeText_10 ?_
    refine r_istore_n dX8_takeText_11 (by decide) ?_
    dsimp only [lset]
    exact hloop 101 _ (by omega) (by omega) (by omega) rfl (by omega)
  · refine r_iconst dX8_takeText_8 ?_
    refine q_iretZ dX8_takeText_9 rfl ?_
    have e : aTakeText a p = (-1, a) := by
      unfold aTakeText
      rw [if_neg (by omega)]
    rw [e]
    exact ⟨rfl, hM, fun _ _ _ => rfl⟩
set_option maxHeartbeats 4000000 in
set_option maxRecDepth 100000 in
theorem m_addWord (I : Mem) (R : RMem) (hRO : RefOk R) (a : AS) (hM : MI I a) (p : Int) (hp : -2147483648 ≤ p ∧ p ≤ 2147483647) (t : Int) (ht : -2147483648 ≤ t ∧ t ≤ 2147483647) (l : Int) (hl : -2147483648 ≤ l ∧ l ≤ 2147483647) (L : Int) (hL : -2147483648 ≤ L ∧ L ≤ 2147483647) : CC 3 0 0 yX8_addWord cX8_addWord 6 (some .int) [.inr (some 290), .inl (p), .inl (t), .inl (l), .inl (L)] (298, ShF, I, R) (PM (aAddWord a p t l L) I R) := by
  have hA := hM.1
  have hW := hA.1
  have hW1 := hW.1
  have hW2 := hW.2.1
  have hW3 := hW.2.2.1
  have hS := hM.2.1
  have htail : ((0 ≤ p ∧ p ≤ a.1.1.2.2 - 1) ∧ (0 ≤ t ∧ t ≤ 1) ∧ (0 ≤ l ∧ l ≤ 25) ∧ (1 ≤ L ∧ L ≤ 30) ∧ (a.1.2.2 p.toNat).2.1 + 1 + L ≤ 80) → ∀ (I1 : Mem), MI I1 (psh a) → (∀ (x : Nat) (j : Int), x ≠ 292 → ¬ (x = 290 ∧ j = 2) → I1 x j = I x j) → ∀ (n : Nat) (i : Int) (I2 : Mem), L < i + n → 0 ≤ i → i ≤ L → QG I2 I1 p ((a.1.2.2 p.toNat).2.1 + 1 + i) (wordF (a.1.2.2 p.toNat).2.2 (a.1.2.2 p.toNat).2.1 (if t = 1 then 9 else 32) (97 + l) L) → WW cX8_addWord RX8 6 (some .int) false 3 0 0 (PM (aAddWord a p t l L) I R) 0 0 88 [some (.inr (some 290)), some (.inl p), some (.inl t), some (.inl l), some (.inl L), some (.inl i)] [] (298, ShF, I2, R) := by
    intro hcond I1 hM1 hk1 n
    have hwl := (hW.2.2.2.2 p.toNat (by omega)).2.1
    have hwc := (hW.2.2.2.2 p.toNat (by omega)).2.2
    induction n with
    | zero => intros; exfalso; omega
    | succ n ih =>
      intro i I2 g1 g2 g3 g4
      have hln := g4.1
      refine r_iload dX8_addWord_88 rfl ?_
      refine r_iload dX8_addWord_90 rfl ?_
      refine r_icmpge (tgt := 110) dX8_addWord_92 (by decide) (by omega) (by omega) (fun h92 => ?_) (fun h92 => ?_)
      · refine r_aload_n dX8_addWord_110 rfl ?_
        refine q_getR fl_X8_7 dX8_addWord_111 sf_290 (ro_290_0 hRO) ?_
        refine r_iload_n dX8_addWord_114 rfl ?_
        refine q_callSF lk_X8_93 dX8_addWord_115 (m_own I2 R p) (by decide) rfl rfl (Nat.le_of_ble_eq_true rfl) (by decide) ?_
        refine r_iconst dX8_addWord_118 ?_
        refine r_iadd dX8_addWord_119 ?_
        refine q_iald dX8_addWord_120 sf_291 (by omega) ?_
        refine q_iretZ dX8_addWord_121 rfl ?_
        have e : aAddWord a p t l L = ((a.1.2.2 p.toNat).2.1 + 1 + L, wS (psh a) (setP a.1 p.toNat ((a.1.2.2 p.toNat).1, (a.1.2.2 p.toNat).2.1 + 1 + L, (wordF (a.1.2.2 p.toNat).2.2 (a.1.2.2 p.toNat).2.1 (if t = 1 then 9 else 32) (97 + l) L)))) := by
          unfold aAddWord
          rw [if_pos (by omega), if_neg (by omega)]
        rw [e]
        rw [show i = L by omega] at g4
        refine ⟨g4.1, g4.end (a := psh a) hM1 (by show 0 ≤ p ∧ p ≤ a.1.1.2.2 - 1; omega) (by omega) (fun j h1 h2 => ?_), fun x j h => by rw [g4.2.2 _ _ (by omega)]; exact hk1 x j (by omega) (by omega)⟩
        unfold wordF
        by_cases hj : j = (a.1.2.2 p.toNat).2.1
        · rw [if_pos hj]
          unfold okc
          split <;> omega
        · rw [if_neg hj]
          by_cases hj2 : (a.1.2.2 p.toNat).2.1 < j ∧ j ≤ (a.1.2.2 p.toNat).2.1 + L
          · rw [if_pos hj2]
            unfold okc
            omega
          · rw [if_neg hj2]
            exact hwc j h1 (by omega)
      · refine r_aload_n dX8_addWord_95 rfl ?_
        refine r_iload_n dX8_addWord_96 rfl ?_
        refine r_bipush dX8_addWord_97 (by decide) ?_
        refine r_iload_n dX8_addWord_99 rfl ?_
        refine r_iadd dX8_addWord_100 ?_
        refine q_callVW lk_X8_102 dX8_addWord_101 (m_adds I2 R hRO p (97 + l) (by omega) (by omega)) (by decide) sf_290 rfl rfl (Nat.le_of_ble_eq_true rfl) (by decide) (fun I3 hI3 => ?_)
        refine r_iinc dX8_addWord_104 rfl (by decide) ?_
        dsimp only [lset]
        refine r_goto (tgt := 88) dX8_addWord_107 (by decide) ?_
        subst hI3
        have hst := g4.step (c := 97 + l) (by omega) (by unfold wordF; rw [if_neg (by omega), if_pos (by omega)])
        rw [show (a.1.2.2 p.toNat).2.1 + 1 + i + 1 = (a.1.2.2 p.toNat).2.1 + 1 + (i + 1) by omega] at hst
        exact ih _ _ (by omega) (by omega) (by omega) hst
  refine CC_of (own := RX8) (ini := false) (by decide +kernel) rfl (fun h => absurd h (by decide)) (Nat.le_of_ble_eq_true rfl) ?_
  show WW cX8_addWord RX8 6 (some .int) false 3 0 0 (PM (aAddWord a p t l L) I R) 0 0 0 [some (.inr (some 290)), some (.inl (p)), some (.inl (t)), some (.inl (l)), some (.inl (L)), none] [] (298, ShF, I, R)
  refine r_aload_n dX8_addWord_0 rfl ?_
  refine r_iload_n dX8_addWord_1 rfl ?_
  refine q_callVF lk_X8_96 dX8_addWord_2 (m_isParagraph I R hRO a.1.1.2.2 hS.2.2.1 hW3 p hp) (by decide) sf_290 rfl rfl (Nat.le_of_ble_eq_true rfl) (by decide) ?_
  refine q_ifeqB (tgt := 38) dX8_addWord_5 (by decide) (fun h5 => ?_) (fun h5 => ?_)
  · refine r_iconst dX8_addWord_38 ?_
    refine q_iretZ dX8_addWord_39 rfl ?_
    have e : aAddWord a p t l L = (-1, a) := by
      unfold aAddWord
      rw [if_neg (by omega)]
    rw [e]
    exact ⟨rfl, hM, fun _ _ _ => rfl⟩
  · refine r_iload_n dX8_addWord_8 rfl ?_
    refine r_iconst dX8_addWord_9 ?_
    refine r_iconst dX8_addWord_10 ?_
    refine q_callSF lk_X8_36 dX8_addWord_11 (c_in I R t 0 1 ht (by decide) (by decide)) (by decide) rfl rfl (Nat.le_of_ble_eq_true rfl) (by decide) ?_
    refine q_ifeqB (tgt := 38) dX8_addWord_14 (by decide) (fun h14 => ?_) (fun h14 => ?_)
    · refine r_iconst dX8_addWord_38 ?_
      refine q_iretZ dX8_addWord_39 rfl ?_
      have e : aAddWord a p t l L = (-1, a) := by
        unfold aAddWord
        rw [if_neg (by omega)]
      rw [e]
      exact ⟨rfl, hM, fun _ _ _ => rfl⟩
    · refine r_iload_n dX8_addWord_17 rfl ?_
      refine r_iconst dX8_addWord_18 ?_
      refine r_bipush dX8_addWord_19 (by decide) ?_
      refine q_callSF lk_X8_36 dX8_addWord_21 (c_in I R l 0 25 hl (by decide) (by decide)) (by decide) rfl rfl (Nat.le_of_ble_eq_true rfl) (by decide) ?_
      refine q_ifeqB (tgt := 38) dX8_addWord_24 (by decide) (fun h24 => ?_) (fun h24 => ?_)
      · refine r_iconst dX8_addWord_38 ?_
        refine q_iretZ dX8_addWord_39 rfl ?_
        have e : aAddWord a p t l L = (-1, a) := by
          unfold aAddWord
          rw [if_neg (by omega)]
        rw [e]
        exact ⟨rfl, hM, fun _ _ _ => rfl⟩
      · refine r_iload dX8_addWord_27 rfl ?_
        refine r_iconst dX8_addWord_29 ?_
        refine r_bipush dX8_addWord_30 (by decide) ?_
        refine q_callSF lk_X8_36 dX8_addWord_32 (c_in I R L 1 30 hL (by decide) (by decide)) (by decide) rfl rfl (Nat.le_of_ble_eq_true rfl) (by decide) ?_
        refine q_ifneB (tgt := 40) dX8_addWord_35 (by decide) (fun h35 => ?_) (fun h35 => ?_)
        · refine r_aload_n dX8_addWord_40 rfl ?_
          refine q_getR fl_X8_7 dX8_addWord_41 sf_290 (ro_290_0 hRO) ?_
          refine r_iload_n dX8_addWord_44 rfl ?_
          have hP := hS.2.2.2.2 p (by omega) (by omega)
          have hwl := (hW.2.2.2.2 p.toNat (by omega)).2.1
          have hlen : I 291 (111 + 82 * p + 1) = (a.1.2.2 p.toNat).2.1 := hP.2.1
          refine q_callSF lk_X8_93 dX8_addWord_45 (m_own I R p) (by decide) rfl rfl (Nat.le_of_ble_eq_true rfl) (by decide) ?_
          refine r_iconst dX8_addWord_48 ?_
          refine r_iadd dX8_addWord_49 ?_
          refine q_iald dX8_addWord_50 sf_291 (by omega) ?_
          rw [hlen]
          refine r_iconst dX8_addWord_51 ?_
          refine r_iadd dX8_addWord_52 ?_
          refine r_iload dX8_addWord_53 rfl ?_
          refine r_iadd dX8_addWord_55 ?_
          refine r_bipush dX8_addWord_56 (by decide) ?_
          refine r_icmple (tgt := 64) dX8_addWord_58 (by decide) (by omega) (by omega) (fun h58 => ?_) (fun h58 => ?_)
          · refine r_aload_n dX8_addWord_64 rfl ?_
            refine q_callVW lk_X8_47 dX8_addWord_65 (m_notes I R hRO a hM) (by decide) sf_290 rfl rfl (Nat.le_of_ble_eq_true rfl) (by decide) (fun I1 hnt => ?_)
            obtain ⟨hM1, hk1⟩ := hnt
            have hS1 : AtM (I1 291) a.1 := hM1.2.1
            have hP1 := hS1.2.2.2.2 p (by omega) (by omega)
            have hlen1 : I1 291 (111 + 82 * p + 1) = (a.1.2.2 p.toNat).2.1 := hP1.2.1
            have hpg0 : ∀ g : Int → Int, (∀ j : Int, 0 ≤ j → j < (a.1.2.2 p.toNat).2.1 → g j = (a.1.2.2 p.toNat).2.2 j) → QG I1 I1 p (a.1.2.2 p.toNat).2.1 g := fun g hg => ⟨hlen1, fun j h1 h2 => (hP1.2.2 j h1 h2).trans (hg j h1 h2).symm, fun _ _ _ => rfl⟩
            refine r_aload_n dX8_addWord_68 rfl ?_
            refine r_iload_n dX8_addWord_69 rfl ?_
            refine r_iload_n dX8_addWord_70 rfl ?_
            refine r_iconst dX8_addWord_71 ?_
            refine r_icmpne (tgt := 80) dX8_addWord_72 (by decide) (by omega) (by omega) (fun h72 => ?_) (fun h72 => ?_)
            · refine r_bipush dX8_addWord_80 (by decide) ?_
              refine q_callVW lk_X8_102 dX8_addWord_82 (m_adds I1 R hRO p _ (by omega) (by omega)) (by decide) sf_290 rfl rfl (Nat.le_of_ble_eq_true rfl) (by decide) (fun I3 hI3 => ?_)
              refine r_iconst dX8_addWord_85 ?_
              refine r_istore dX8_addWord_86 (by decide) ?_
              dsimp only [lset]
              subst hI3
              have hst := (hpg0 (wordF (a.1.2.2 p.toNat).2.2 (a.1.2.2 p.toNat).2.1 (if t = 1 then 9 else 32) (97 + l) L) (fun j h1 h2 => by unfold wordF; rw [if_neg (by omega), if_neg (by omega)])).step (c := (if t = 1 then 9 else 32)) (by omega) (by unfold wordF; rw [if_pos rfl])
              first | rw [if_pos (show t = 1 by omega)] at hst | rw [if_neg (show ¬ t = 1 by omega)] at hst
              exact htail (by omega) I1 hM1 hk1 31 0 _ (by omega) (by omega) (by omega) (by first | (rw [if_pos (show t = 1 by omega), Int.add_zero]; exact hst) | (rw [if_neg (show ¬ t = 1 by omega), Int.add_zero]; exact hst))
            · refine r_bipush dX8_addWord_75 (by decide) ?_
              refine r_goto (tgt := 82) dX8_addWord_77 (by decide) ?_
              refine q_callVW lk_X8_102 dX8_addWord_82 (m_adds I1 R hRO p _ (by omega) (by omega)) (by decide) sf_290 rfl rfl (Nat.le_of_ble_eq_true rfl) (by decide) (fun I3 hI3 => ?_)
              refine r_iconst dX8_addWord_85 ?_
              refine r_istore dX8_addWord_86 (by decide) ?_
              dsimp only [lset]
              subst hI3
              have hst := (hpg0 (wordF (a.1.2.2 p.toNat).2.2 (a.1.2.2 p.toNat).2.1 (if t = 1 then 9 else 32) (97 + l) L) (fun j h1 h2 => by unfold wordF; rw [if_neg (by omega), if_neg (by omega)])).step (c := (if t = 1 then 9 else 32)) (by omega) (by unfold wordF; rw [if_pos rfl])
              first | rw [if_pos (show t = 1 by omega)] at hst | rw [if_neg (show ¬ t = 1 by omega)] at hst
              exact htail (by omega) I1 hM1 hk1 31 0 _ (by omega) (by omega) (by omega) (by first | (rw [if_pos (show t = 1 by omega), Int.add_zero]; exact hst) | (rw [if_neg (show ¬ t = 1 by omega), Int.add_zero]; exact hst))
          · refine r_bipush dX8_addWord_61 (by decide) ?_
            refine q_iretZ dX8_addWord_63 rfl ?_
            have e : aAddWord a p t l L = (-3, a) := by
              unfold aAddWord
              rw [if_pos (by omega), if_pos (by omega)]
            rw [e]
            exact ⟨rfl, hM, fun _ _ _ => rfl⟩
        · refine r_iconst dX8_addWord_38 ?_
          refine q_iretZ dX8_addWord_39 rfl ?_
          have e : aAddWord a p t l L = (-1, a) := by
            unfold aAddWord
            rw [if_neg (by omega)]
          rw [e]
          exact ⟨rfl, hM, fun _ _ _ => rfl⟩
set_option maxHeartbeats 4000000 in
set_option maxRecDepth 100000 in
theorem m_addAmount (I : Mem) (R : RMem) (hRO : RefOk R) (a : AS) (hM : MI I a) (p : Int) (hp : -2147483648 ≤ p ∧ p ≤ 2147483647) (h : Int) (hh : -2147483648 ≤ h ∧ h ≤ 2147483647) : CC 3 0 0 yX8_addAmount cX8_addAmount 6 (some .int) [.inr (some 290), .inl (p), .inl (h)] (298, ShF, I, R) (PM (aAddAmount a p h) I R) := by
  have hA := hM.1
  have hW := hA.1
  have hW1 := hW.1
  have hW2 := hW.2.1
  have hW3 := hW.2.2.1
  have hS := hM.2.1
  have hD := dgt_in (h / 100)
  have htail : ((0 ≤ p ∧ p ≤ a.1.1.2.2 - 1) ∧ (0 ≤ h ∧ h ≤ 9999999) ∧ (a.1.2.2 p.toNat).2.1 + 4 + dgt (h / 100) ≤ 80) → ∀ (tn dg : Int) (I1 : Mem), MI I1 (psh a) → (∀ (x : Nat) (j : Int), x ≠ 292 → ¬ (x = 290 ∧ j = 2) → I1 x j = I x j) → ∀ (n : Nat) (e u m : Int) (I2 : Mem), e + 1 < n → ((e = 4 ∧ u = 10000) ∨ (e = 3 ∧ u = 1000) ∨ (e = 2 ∧ u = 100) ∨ (e = 1 ∧ u = 10) ∨ (e = 0 ∧ u = 1) ∨ (e = -1 ∧ u = 0)) → m = dgt (h / 100) - 1 - e → e ≤ dgt (h / 100) - 1 → QG I2 I1 p ((a.1.2.2 p.toNat).2.1 + 1 + m) (amtF (a.1.2.2 p.toNat).2.2 (a.1.2.2 p.toNat).2.1 h) → WW cX8_addAmount RX8 6 (some .int) false 3 0 0 (PM (aAddAmount a p h) I R) 0 0 85 [some (.inr (some 290)), some (.inl p), some (.inl h), some (.inl tn), some (.inl dg), some (.inl u)] [] (298, ShF, I2, R) := by
    intro hcond tn dg I1 hM1 hk1 n
    have hwl := (hW.2.2.2.2 p.toNat (by omega)).2.1
    have hwc := (hW.2.2.2.2 p.toNat (by omega)).2.2
    induction n with
    | zero => intros; exfalso; omega
    | succ n ih =>
      intro e u m I2 g1 g2 g3 g4 g5
      have hln := g5.1
      refine r_iload dX8_addAmount_85 rfl ?_
      refine r_ifle (tgt := 118) dX8_addAmount_87 (by decide) (by omega) (fun h87 => ?_) (fun h87 => ?_)
      · refine r_aload_n dX8_addAmount_118 rfl ?_
        refine r_iload_n dX8_addAmount_119 rfl ?_
        refine r_bipush dX8_addAmount_120 (by decide) ?_
        refine q_callVW lk_X8_102 dX8_addAmount_122 (m_adds I2 R hRO p _ (by omega) (by omega)) (by decide) sf_290 rfl rfl (Nat.le_of_ble_eq_true rfl) (by decide) (fun I3 hI3 => ?_)
        subst hI3
        have hs1 := g5.step (c := 46) (by omega) (by unfold amtF; rw [if_neg (by omega), if_neg (by omega), if_pos (by omega)])
        have hs1l := hs1.1
        refine r_aload_n dX8_addAmount_125 rfl ?_
        refine r_iload_n dX8_addAmount_126 rfl ?_
        refine r_bipush dX8_addAmount_127 (by decide) ?_
        refine r_iload_n dX8_addAmount_129 rfl ?_
        refine r_bipush dX8_addAmount_130 (by decide) ?_
        refine r_idiv dX8_addAmount_132 (by omega) (by omega) ?_
        refine r_bipush dX8_addAmount_133 (by decide) ?_
        refine r_irem dX8_addAmount_135 (by omega) (by omega) ?_
        refine r_iadd dX8_addAmount_136 ?_
        refine q_callVW lk_X8_102 dX8_addAmount_137 (m_adds _ R hRO p _ (by omega) (by omega)) (by decide) sf_290 rfl rfl (Nat.le_of_ble_eq_true rfl) (by decide) (fun I4 hI4 => ?_)
        subst hI4
        have hs2 := hs1.step (c := 48 + h / 10 % 10) (by omega) (by unfold amtF; rw [if_neg (by omega), if_neg (by omega), if_neg (by omega), if_pos (by omega)])
        have hs2l := hs2.1
        refine r_aload_n dX8_addAmount_140 rfl ?_
        refine r_iload_n dX8_addAmount_141 rfl ?_
        refine r_bipush dX8_addAmount_142 (by decide) ?_
        refine r_iload_n dX8_addAmount_144 rfl ?_
        refine r_bipush dX8_addAmount_145 (by decide) ?_
        refine r_irem dX8_addAmount_147 (by omega) (by omega) ?_
        refine r_iadd dX8_addAmount_148 ?_
        refine q_callVW lk_X8_102 dX8_addAmount_149 (m_adds _ R hRO p _ (by omega) (by omega)) (by decide) sf_290 rfl rfl (Nat.le_of_ble_eq_true rfl) (by decide) (fun I5 hI5 => ?_)
        subst hI5
        have hs3 := hs2.step (c := 48 + h % 10) (by omega) (by unfold amtF; rw [if_neg (by omega), if_neg (by omega), if_neg (by omega), if_neg (by omega), if_pos (by omega)])
        rw [show (a.1.2.2 p.toNat).2.1 + 1 + m + 1 + 1 + 1 = (a.1.2.2 p.toNat).2.1 + 4 + dgt (h / 100) by omega] at hs3
        refine r_aload_n dX8_addAmount_152 rfl ?_
        refine q_getR fl_X8_7 dX8_addAmount_153 sf_290 (ro_290_0 hRO) ?_
        refine r_iload_n dX8_addAmount_156 rfl ?_
        refine q_callSF lk_X8_93 dX8_addAmount_157 (m_own _ R p) (by decide) rfl rfl (Nat.le_of_ble_eq_true rfl) (by decide) ?_
        refine r_iconst dX8_addAmount_160 ?_
        refine r_iadd dX8_addAmount_161 ?_
        refine q_iald dX8_addAmount_162 sf_291 (by omega) ?_
        refine q_iretZ dX8_addAmount_163 rfl ?_
        have e9 : aAddAmount a p h = ((a.1.2.2 p.toNat).2.1 + 4 + dgt (h / 100), wS (psh a) (setP a.1 p.toNat ((a.1.2.2 p.toNat).1, (a.1.2.2 p.toNat).2.1 + 4 + dgt (h / 100), (amtF (a.1.2.2 p.toNat).2.2 (a.1.2.2 p.toNat).2.1 h)))) := by
          unfold aAddAmount
          rw [if_pos (by omega), if_neg (by omega)]
        rw [e9]
        refine ⟨hs3.1, hs3.end (a := psh a) hM1 (by show 0 ≤ p ∧ p ≤ a.1.1.2.2 - 1; omega) (by omega) (fun j h1 h2 => ?_), fun x j h => by rw [hs3.2.2 _ _ (by omega)]; exact hk1 x j (by omega) (by omega)⟩
        unfold amtF
        by_cases q1 : j = (a.1.2.2 p.toNat).2.1
        · rw [if_pos q1]
          unfold okc
          omega
        · rw [if_neg q1]
          by_cases q2 : (a.1.2.2 p.toNat).2.1 < j ∧ j ≤ (a.1.2.2 p.toNat).2.1 + dgt (h / 100)
          · rw [if_pos q2]
            have hdd : 0 ≤ dig (h / 100) (dgt (h / 100) - (j - (a.1.2.2 p.toNat).2.1)) ∧ dig (h / 100) (dgt (h / 100) - (j - (a.1.2.2 p.toNat).2.1)) ≤ 9 := by
              unfold dig
              split
              · omega
              · split
                · omega
                · split
                  · omega
                  · split <;> omega
            unfold okc
            omega
          · rw [if_neg q2]
            by_cases q3 : j = (a.1.2.2 p.toNat).2.1 + dgt (h / 100) + 1
            · rw [if_pos q3]
              unfold okc
              omega
            · rw [if_neg q3]
              by_cases q4 : j = (a.1.2.2 p.toNat).2.1 + dgt (h / 100) + 2
              · rw [if_pos q4]
                unfold okc
                omega
              · rw [if_neg q4]
                by_cases q5 : j = (a.1.2.2 p.toNat).2.1 + dgt (h / 100) + 3
                · rw [if_pos q5]
                  unfold okc
                  omega
                · rw [if_neg q5]
                  exact hwc j h1 (by omega)
      · refine r_aload_n dX8_addAmount_90 rfl ?_
        refine r_iload_n dX8_addAmount_91 rfl ?_
        refine r_bipush dX8_addAmount_92 (by decide) ?_
        refine r_iload_n dX8_addAmount_94 rfl ?_
        refine r_bipush dX8_addAmount_95 (by decide) ?_
        refine r_idiv dX8_addAmount_97 (by omega) (by omega) ?_
        refine r_iload dX8_addAmount_98 rfl ?_
        refine r_idiv dX8_addAmount_100 (by omega) (by omega) ?_
        have hq0 : 0 ≤ h / 100 / u := Int.ediv_nonneg (by omega) (by omega)
        have hq1 : h / 100 / u ≤ h / 100 := Int.ediv_le_self _ (by omega)
        refine r_bipush dX8_addAmount_101 (by decide) ?_
        refine r_irem dX8_addAmount_103 (by omega) (by omega) ?_
        refine r_iadd dX8_addAmount_104 ?_
        refine q_callVW lk_X8_102 dX8_addAmount_105 (m_adds I2 R hRO p _ (by omega) (by omega)) (by decide) sf_290 rfl rfl (Nat.le_of_ble_eq_true rfl) (by decide) (fun I3 hI3 => ?_)
        subst hI3
        have hst := g5.step (c := 48 + h / 100 / u % 10) (by omega) (by
          unfold amtF dig
          rw [if_neg (by omega), if_pos (by omega)]
          rcases g2 with h | h | h | h | h | h
          · rw [if_neg (by omega), if_neg (by omega), if_neg (by omega), if_neg (by omega), h.2]
          · rw [if_neg (by omega), if_neg (by omega), if_neg (by omega), if_pos (by omega), h.2]
          · rw [if_neg (by omega), if_neg (by omega), if_pos (by omega), h.2]
          · rw [if_neg (by omega), if_pos (by omega), h.2]
          · rw [if_pos (by omega), h.2, Int.ediv_one]
          · omega)
        rw [show (a.1.2.2 p.toNat).2.1 + 1 + m + 1 = (a.1.2.2 p.toNat).2.1 + 1 + (m + 1) by omega] at hst
        refine r_iload dX8_addAmount_108 rfl ?_
        refine r_bipush dX8_addAmount_110 (by decide) ?_
        refine r_idiv dX8_addAmount_112 (by omega) (by omega) ?_
        refine r_istore dX8_addAmount_113 (by decide) ?_
        dsimp only [lset]
        refine r_goto (tgt := 85) dX8_addAmount_115 (by decide) ?_
        exact ih (e - 1) _ (m + 1) _ (by omega) (by omega) (by omega) (by omega) hst
  have hloop : ∀ (n : Nat) (tn dg : Int), 5 < dg + n → ((tn = 1 ∧ dg = 1) ∨ (tn = 10 ∧ dg = 2 ∧ 10 ≤ h / 100) ∨ (tn = 100 ∧ dg = 3 ∧ 100 ≤ h / 100) ∨ (tn = 1000 ∧ dg = 4 ∧ 1000 ≤ h / 100) ∨ (tn = 10000 ∧ dg = 5 ∧ 10000 ≤ h / 100)) → ((0 ≤ p ∧ p ≤ a.1.1.2.2 - 1) ∧ (0 ≤ h ∧ h ≤ 9999999)) → WW cX8_addAmount RX8 6 (some .int) false 3 0 0 (PM (aAddAmount a p h) I R) 0 0 25 [some (.inr (some 290)), some (.inl (p)), some (.inl (h)), some (.inl (tn)), some (.inl (dg)), none] [] (298, ShF, I, R) := by
    intro n
    induction n with
    | zero => intros; exfalso; omega
    | succ n ih =>
      intro tn dg g1 g2 g3
      refine r_iload_n dX8_addAmount_25 rfl ?_
      refine r_bipush dX8_addAmount_26 (by decide) ?_
      refine r_idiv dX8_addAmount_28 (by omega) (by omega) ?_
      refine r_iload_n dX8_addAmount_29 rfl ?_
      refine r_idiv dX8_addAmount_30 (by omega) (by omega) ?_
      have hq0 : 0 ≤ h / 100 / tn := Int.ediv_nonneg (by omega) (by omega)
      have hq1 : h / 100 / tn ≤ h / 100 := Int.ediv_le_self _ (by omega)
      refine r_bipush dX8_addAmount_31 (by decide) ?_
      refine r_icmplt (tgt := 47) dX8_addAmount_33 (by decide) (by omega) (by omega) (fun h33 => ?_) (fun h33 => ?_)
      · have hdg : dg = dgt (h / 100) ∧ ((dg - 1 = 4 ∧ tn = 10000) ∨ (dg - 1 = 3 ∧ tn = 1000) ∨ (dg - 1 = 2 ∧ tn = 100) ∨ (dg - 1 = 1 ∧ tn = 10) ∨ (dg - 1 = 0 ∧ tn = 1) ∨ (dg - 1 = -1 ∧ tn = 0)) := by
          rcases g2 with h | h | h | h | h <;> (obtain ⟨h6, h7⟩ := h; rw [h6] at h33 ⊢; omega)
        have hP := hS.2.2.2.2 p (by omega) (by omega)
        have hwl := (hW.2.2.2.2 p.toNat (by omega)).2.1
        have hlen : I 291 (111 + 82 * p + 1) = (a.1.2.2 p.toNat).2.1 := hP.2.1
        refine r_aload_n dX8_addAmount_47 rfl ?_
        refine q_getR fl_X8_7 dX8_addAmount_48 sf_290 (ro_290_0 hRO) ?_
        refine r_iload_n dX8_addAmount_51 rfl ?_
        refine q_callSF lk_X8_93 dX8_addAmount_52 (m_own I R p) (by decide) rfl rfl (Nat.le_of_ble_eq_true rfl) (by decide) ?_
        refine r_iconst dX8_addAmount_55 ?_
        refine r_iadd dX8_addAmount_56 ?_
        refine q_iald dX8_addAmount_57 sf_291 (by omega) ?_
        rw [hlen]
        refine r_iconst dX8_addAmount_58 ?_
        refine r_iadd dX8_addAmount_59 ?_
        refine r_iload dX8_addAmount_60 rfl ?_
        refine r_iadd dX8_addAmount_62 ?_
        refine r_bipush dX8_addAmount_63 (by decide) ?_
        refine r_icmple (tgt := 71) dX8_addAmount_65 (by decide) (by omega) (by omega) (fun h65 => ?_) (fun h65 => ?_)
        · refine r_aload_n dX8_addAmount_71 rfl ?_
          refine q_callVW lk_X8_47 dX8_addAmount_72 (m_notes I R hRO a hM) (by decide) sf_290 rfl rfl (Nat.le_of_ble_eq_true rfl) (by decide) (fun I1 hnt => ?_)
          obtain ⟨hM1, hk1⟩ := hnt
          have hS1 : AtM (I1 291) a.1 := hM1.2.1
          have hP1 := hS1.2.2.2.2 p (by omega) (by omega)
          have hlen1 : I1 291 (111 + 82 * p + 1) = (a.1.2.2 p.toNat).2.1 := hP1.2.1
          have hpg0 : ∀ g : Int → Int, (∀ j : Int, 0 ≤ j → j < (a.1.2.2 p.toNat).2.1 → g j = (a.1.2.2 p.toNat).2.2 j) → QG I1 I1 p (a.1.2.2 p.toNat).2.1 g := fun g hg => ⟨hlen1, fun j h1 h2 => (hP1.2.2 j h1 h2).trans (hg j h1 h2).symm, fun _ _ _ => rfl⟩
          refine r_aload_n dX8_addAmount_75 rfl ?_
          refine r_iload_n dX8_addAmount_76 rfl ?_
          refine r_bipush dX8_addAmount_77 (by decide) ?_
          refine q_callVW lk_X8_102 dX8_addAmount_79 (m_adds I1 R hRO p _ (by omega) (by omega)) (by decide) sf_290 rfl rfl (Nat.le_of_ble_eq_true rfl) (by decide) (fun I3 hI3 => ?_)
          refine r_iload_n dX8_addAmount_82 rfl ?_
          refine r_istore dX8_addAmount_83 (by decide) ?_
          dsimp only [lset]
          subst hI3
          have hst := (hpg0 (amtF (a.1.2.2 p.toNat).2.2 (a.1.2.2 p.toNat).2.1 h) (fun j h1 h2 => by unfold amtF; rw [if_neg (by omega), if_neg (by omega), if_neg (by omega), if_neg (by omega), if_neg (by omega)])).step (c := 9) (by omega) (by unfold amtF; rw [if_pos rfl])
          exact htail (by omega) _ _ I1 hM1 hk1 6 (dg - 1) _ 0 _ (by omega) hdg.2 (by omega) (by omega) (by rw [Int.add_zero]; exact hst)
        · refine r_bipush dX8_addAmount_68 (by decide) ?_
          refine q_iretZ dX8_addAmount_70 rfl ?_
          have e : aAddAmount a p h = (-3, a) := by
            unfold aAddAmount
            rw [if_pos (by omega), if_pos (by omega)]
          rw [e]
          exact ⟨rfl, hM, fun _ _ _ => rfl⟩
      · have hw10 : 10 * tn ≤ h / 100 := by
          rcases g2 with h | h | h | h | h <;> (obtain ⟨h6, h7⟩ := h; rw [h6] at h33 ⊢; omega)
        refine r_iload_n dX8_addAmount_36 rfl ?_
        refine r_bipush dX8_addAmount_37 (by decide) ?_
        refine r_imul dX8_addAmount_39 ?_
        refine r_istore_n dX8_addAmount_40 (by decide) ?_
        dsimp only [lset]
        refine r_iinc dX8_addAmount_41 rfl (by decide) ?_
        dsimp only [lset]
        refine r_goto (tgt := 25) dX8_addAmount_44 (by decide) ?_
        exact ih _ _ (by omega) (by omega) g3
  refine CC_of (own := RX8) (ini := false) (by decide +kernel) rfl (fun h => absurd h (by decide)) (Nat.le_of_ble_eq_true rfl) ?_
  show WW cX8_addAmount RX8 6 (some .int) false 3 0 0 (PM (aAddAmount a p h) I R) 0 0 0 [some (.inr (some 290)), some (.inl (p)), some (.inl (h)), none, none, none] [] (298, ShF, I, R)
  refine r_aload_n dX8_addAmount_0 rfl ?_
  refine r_iload_n dX8_addAmount_1 rfl ?_
  refine q_callVF lk_X8_96 dX8_addAmount_2 (m_isParagraph I R hRO a.1.1.2.2 hS.2.2.1 hW3 p hp) (by decide) sf_290 rfl rfl (Nat.le_of_ble_eq_true rfl) (by decide) ?_
  refine q_ifeqB (tgt := 18) dX8_addAmount_5 (by decide) (fun h5 => ?_) (fun h5 => ?_)
  · refine r_iconst dX8_addAmount_18 ?_
    refine q_iretZ dX8_addAmount_19 rfl ?_
    have e : aAddAmount a p h = (-1, a) := by
      unfold aAddAmount
      rw [if_neg (by omega)]
    rw [e]
    exact ⟨rfl, hM, fun _ _ _ => rfl⟩
  · refine r_iload_n dX8_addAmount_8 rfl ?_
    refine r_iconst dX8_addAmount_9 ?_
    refine q_ldc (z := 9999999) co_X8_106 rfl dX8_addAmount_10 ?_
    refine q_callSF lk_X8_36 dX8_addAmount_12 (c_in I R h 0 9999999 hh (by decide) (by decide)) (by decide) rfl rfl (Nat.le_of_ble_eq_true rfl) (by decide) ?_
    refine q_ifneB (tgt := 20) dX8_addAmount_15 (by decide) (fun h15 => ?_) (fun h15 => ?_)
    · refine r_iconst dX8_addAmount_20 ?_
      refine r_istore_n dX8_addAmount_21 (by decide) ?_
      dsimp only [lset]
      refine r_iconst dX8_addAmount_22 ?_
      refine r_istore dX8_addAmount_23 (by decide) ?_
      dsimp only [lset]
      exact hloop 5 _ _ (by omega) (by omega) (by omega)
    · refine r_iconst dX8_addAmount_18 ?_
      refine q_iretZ dX8_addAmount_19 rfl ?_
      have e : aAddAmount a p h = (-1, a) := by
        unfold aAddAmount
        rw [if_neg (by omega)]
      rw [e]
      exact ⟨rfl, hM, fun _ _ _ => rfl⟩
