/-! the other object: its picture, its saved states -/
def MY (y : Int → Int) (v : YV) : Prop := y 0 = v.1 ∧ y 1 = v.2.1 ∧ y 2 = cntF v.2.2 80 ∧ ∀ p : Int, StpF v.2.2 p → y (3 + 3 * cntF v.2.2 (p - 1).toNat) = p ∧ y (3 + 3 * cntF v.2.2 (p - 1).toNat + 1) = (v.2.2 p - 1) / 4 ∧ y (3 + 3 * cntF v.2.2 (p - 1).toNat + 2) = (v.2.2 p - 1) % 4
def MP (y : Int → Int) (v : YV) : Prop := y 0 = v.1 ∧ y 1 = v.2.1 ∧ ∀ j : Int, 0 ≤ j → j < v.2.1 → y (2 + j) = v.2.2 j
def AtM (s : Int → Int) (σ : CS) : Prop := s 0 = σ.1.1 ∧ s 1 = σ.1.2.1 ∧ s 2 = σ.1.2.2 ∧ (∀ i : Int, 0 ≤ i → i < 4 → MY (fun j => s (3 + 27 * i + j)) (σ.2.1 i.toNat)) ∧ ∀ i : Int, 0 ≤ i → i < σ.1.2.2 → MP (fun j => s (111 + 82 * i + j)) (σ.2.2 i.toNat)
def MI (I : Mem) (a : AS) : Prop := AbsOk a ∧ AtM (I 291) a.1 ∧ I 290 2 = a.2.1 ∧ (∀ j : Nat, j < a.2.1 → AtM (fun q => I 292 (767 * j + q)) (a.2.2.1 j)) ∧ I 290 4 = a.2.2.2.1 ∧ ∀ j : Int, 0 ≤ j → j < a.2.2.2.1 → I 293 j = (a.2.2.2.2 j).bmod 256
def PM (fa : Int × AS) (I : Mem) (R : RMem) : Option MV → Wd → Prop := PZ R (fun z I1 => z = fa.1 ∧ MI I1 fa.2 ∧ ∀ (x : Nat) (j : Int), x < 290 → I1 x j = I x j)
theorem cnt_lt {f : Int → Int} {p : Int} (h : StpF f p) : cntF f (p - 1).toNat < cntF f 80 := by
  have h1 := cntF_step f (p := p) h.1
  rw [if_neg h.2.2] at h1
  have h2 := cntF_mono f (m := p.toNat) (n := 80) (by have := h.2.1; omega)
  omega
theorem cnt_inj {f : Int → Int} {p q : Int} (hp : StpF f p) (hq : StpF f q) (h : p < q) : cntF f (p - 1).toNat < cntF f (q - 1).toNat := by
  have h1 := cntF_step f (p := p) hp.1
  rw [if_neg hp.2.2] at h1
  have h2 := cntF_mono f (m := p.toNat) (n := (q - 1).toNat) (by omega)
  omega
theorem cnt_surj {f : Int → Int} {k : Int} : ∀ n : Nat, n ≤ 80 → 0 ≤ k → k < cntF f n → ∃ p : Int, StpF f p ∧ p ≤ n ∧ cntF f (p - 1).toNat = k
  | 0, _, h0, h => by
    simp [cntF] at h
    omega
  | n + 1, hn, h0, h => by
    have hst : cntF f (n + 1) = cntF f n + (if f ((n : Int) + 1) = 0 then 0 else 1) := rfl
    by_cases hk : k < cntF f n
    · obtain ⟨p, h1, h2, h3⟩ := cnt_surj n (by omega) h0 hk
      exact ⟨p, h1, by omega, h3⟩
    · by_cases hf : f ((n : Int) + 1) = 0
      · rw [if_pos hf] at hst
        omega
      · rw [if_neg hf] at hst
        exact ⟨(n : Int) + 1, ⟨by omega, by omega, hf⟩, by omega, by rw [show ((n : Int) + 1 - 1).toNat = n by omega]; omega⟩
theorem MY.congr {y y1 : Int → Int} {v : YV} (h8 : cntF v.2.2 80 ≤ 8) (h : MY y v) (hk : ∀ j : Int, 0 ≤ j → j < 27 → y1 j = y j) : MY y1 v := by
  refine ⟨(hk _ (by omega) (by omega)).trans h.1, (hk _ (by omega) (by omega)).trans h.2.1, (hk _ (by omega) (by omega)).trans h.2.2.1, fun p hp => ?_⟩
  have h1 := h.2.2.2 p hp
  have h2 := cnt_lt hp
  have h3 := (cntF_bd v.2.2 (p - 1).toNat).1
  exact ⟨(hk _ (by omega) (by omega)).trans h1.1, (hk _ (by omega) (by omega)).trans h1.2.1, (hk _ (by omega) (by omega)).trans h1.2.2⟩
theorem MP.congr {y y1 : Int → Int} {v : YV} (h8 : v.2.1 ≤ 80) (h : MP y v) (hk : ∀ j : Int, 0 ≤ j → j < 82 → y1 j = y j) : MP y1 v :=
  ⟨(hk _ (by omega) (by omega)).trans h.1, (hk _ (by omega) (by omega)).trans h.2.1, fun j h1 h2 => (hk _ (by omega) (by omega)).trans (h.2.2 j h1 h2)⟩
theorem AtM.congr {s s1 : Int → Int} {σ : CS} (hw : WfS σ) (h : AtM s σ) (hk : ∀ j : Int, 0 ≤ j → j < 767 → s1 j = s j) : AtM s1 σ := by
  have hc := hw.2.2.1
  refine ⟨(hk _ (by omega) (by omega)).trans h.1, (hk _ (by omega) (by omega)).trans h.2.1, (hk _ (by omega) (by omega)).trans h.2.2.1, fun i h1 h2 => (h.2.2.2.1 i h1 h2).congr (hw.2.2.2.1 i.toNat (by omega)).2.2.2 (fun j q1 q2 => hk _ (by omega) (by omega)), fun i h1 h2 => (h.2.2.2.2 i h1 h2).congr (hw.2.2.2.2 i.toNat (by omega)).2.1.2 (fun j q1 q2 => hk _ (by omega) (by omega))⟩
theorem AbsOk.psh {a : AS} (h : AbsOk a) : AbsOk (psh a) := by
  refine ⟨h.1, psh_6 a h.2.1, fun j hj => ?_, h.2.2.2⟩
  have hj : j < nS a.2.1 := hj
  have h6 := h.2.1
  show WfS (pushS a.2.2.1 a.2.1 a.1 j)
  unfold nS at hj
  unfold pushS
  by_cases hn : a.2.1 = 6
  · rw [if_pos hn] at hj ⊢
    by_cases h5 : j = 5
    · rw [if_pos h5]; exact h.1
    · rw [if_neg h5]; exact h.2.2.1 _ (by omega)
  · rw [if_neg hn] at hj ⊢
    by_cases h5 : j = a.2.1
    · rw [if_pos h5]; exact h.1
    · rw [if_neg h5]; exact h.2.2.1 _ (by omega)
theorem AbsOk.st {a : AS} {σ : CS} (h : AbsOk a) (hs : WfS σ) : AbsOk (wS a σ) := ⟨hs, h.2⟩
theorem MI.st {I I1 : Mem} {a : AS} {σ : CS} (h : MI I a) (hs : WfS σ) (hM : AtM (I1 291) σ) (hk : ∀ (x : Nat) (j : Int), x ≠ 291 → I1 x j = I x j) : MI I1 (wS a σ) :=
  ⟨h.1.st hs, hM, (hk _ _ (by decide)).trans h.2.2.1, fun j hj => by
    have e : (fun q => I1 292 (767 * (j : Int) + q)) = fun q => I 292 (767 * (j : Int) + q) := funext fun q => hk _ _ (by decide)
    rw [e]
    exact h.2.2.2.1 j hj, (hk _ _ (by decide)).trans h.2.2.2.2.1, fun j h1 h2 => (hk _ _ (by decide)).trans (h.2.2.2.2.2 j h1 h2)⟩
set_option maxHeartbeats 4000000 in
set_option maxRecDepth 100000 in
theorem m_isStyle (I : Mem) (R : RMem) (s : Int) (hs : -2147483648 ≤ s ∧ s ≤ 2147483647) : CC 2 0 0 yX8_isStyle cX8_isStyle 1 (some .boolean) [.inl (s)] (298, ShF, I, R) (PF (b2i (0 ≤ s ∧ s ≤ 3)) I R) := by
  refine CC_of (own := RX8) (ini := false) (by decide +kernel) rfl (fun h => absurd h (by decide)) (Nat.le_of_ble_eq_true rfl) ?_
  show WW cX8_isStyle RX8 1 (some .boolean) false 2 0 0 (PF (b2i (0 ≤ s ∧ s ≤ 3)) I R) 0 0 0 [some (.inl (s))] [] (298, ShF, I, R)
  refine r_iload_n dX8_isStyle_0 rfl ?_
  refine r_iconst dX8_isStyle_1 ?_
  refine r_iconst dX8_isStyle_2 ?_
  refine q_callSF lk_X8_36 dX8_isStyle_3 (c_in I R s 0 3 hs (by decide) (by decide)) (by decide) rfl rfl (Nat.le_of_ble_eq_true rfl) (by decide) ?_
  refine q_zretF dX8_isStyle_6 rfl (b2i_01 _) ?_
  rfl
set_option maxHeartbeats 4000000 in
set_option maxRecDepth 100000 in
theorem m_placeOf (I : Mem) (R : RMem) (s w : Int) : CC 1 0 0 yX8_placeOf cX8_placeOf 2 (some .int) [.inl (s), .inl (w)] (298, ShF, I, R) (PF (3 + 27 * s + w) I R) := by
  refine CC_of (own := RX8) (ini := false) (by decide +kernel) rfl (fun h => absurd h (by decide)) (Nat.le_of_ble_eq_true rfl) ?_
  show WW cX8_placeOf RX8 2 (some .int) false 1 0 0 (PF (3 + 27 * s + w) I R) 0 0 0 [some (.inl (s)), some (.inl (w))] [] (298, ShF, I, R)
  refine r_iconst dX8_placeOf_0 ?_
  refine r_bipush dX8_placeOf_1 (by decide) ?_
  refine r_iload_n dX8_placeOf_3 rfl ?_
  refine r_imul dX8_placeOf_4 ?_
  refine r_iadd dX8_placeOf_5 ?_
  refine r_iload_n dX8_placeOf_6 rfl ?_
  refine r_iadd dX8_placeOf_7 ?_
  refine q_iretF dX8_placeOf_8 rfl ?_
  rfl
set_option maxHeartbeats 4000000 in
set_option maxRecDepth 100000 in
theorem m_own (I : Mem) (R : RMem) (p : Int) : CC 1 0 0 yX8_own cX8_own 1 (some .int) [.inl (p)] (298, ShF, I, R) (PF (111 + 82 * p) I R) := by
  refine CC_of (own := RX8) (ini := false) (by decide +kernel) rfl (fun h => absurd h (by decide)) (Nat.le_of_ble_eq_true rfl) ?_
  show WW cX8_own RX8 1 (some .int) false 1 0 0 (PF (111 + 82 * p) I R) 0 0 0 [some (.inl (p))] [] (298, ShF, I, R)
  refine r_bipush dX8_own_0 (by decide) ?_
  refine r_bipush dX8_own_2 (by decide) ?_
  refine r_iload_n dX8_own_4 rfl ?_
  refine r_imul dX8_own_5 ?_
  refine r_iadd dX8_own_6 ?_
  refine q_iretF dX8_own_7 rfl ?_
  rfl
set_option maxHeartbeats 4000000 in
set_option maxRecDepth 100000 in
theorem m_of (I : Mem) (R : RMem) (hRO : RefOk R) (s w : Int) (h : 0 ≤ 3 + 27 * s + w ∧ 3 + 27 * s + w < 767) : CC 2 0 0 yX8_of cX8_of 3 (some .int) [.inr (some 290), .inl (s), .inl (w)] (298, ShF, I, R) (PF (I 291 (3 + 27 * s + w)) I R) := by
  refine CC_of (own := RX8) (ini := false) (by decide +kernel) rfl (fun h => absurd h (by decide)) (Nat.le_of_ble_eq_true rfl) ?_
  show WW cX8_of RX8 3 (some .int) false 2 0 0 (PF (I 291 (3 + 27 * s + w)) I R) 0 0 0 [some (.inr (some 290)), some (.inl (s)), some (.inl (w))] [] (298, ShF, I, R)
  refine r_aload_n dX8_of_0 rfl ?_
  refine q_getR fl_X8_7 dX8_of_1 sf_290 (ro_290_0 hRO) ?_
  refine r_iload_n dX8_of_4 rfl ?_
  refine r_iload_n dX8_of_5 rfl ?_
  refine q_callSF lk_X8_40 dX8_of_6 (m_placeOf I R s w) (by decide) rfl rfl (Nat.le_of_ble_eq_true rfl) (by decide) ?_
  refine q_iald dX8_of_9 sf_291 (by omega) ?_
  refine q_iretF dX8_of_10 rfl ?_
  rfl
set_option maxHeartbeats 4000000 in
set_option maxRecDepth 100000 in
theorem m_stopOf (I : Mem) (R : RMem) (hRO : RefOk R) (s k w : Int) (h : 0 ≤ 3 + 27 * s + (3 + 3 * k + w) ∧ 3 + 27 * s + (3 + 3 * k + w) < 767) : CC 3 0 0 yX8_stopOf cX8_stopOf 4 (some .int) [.inr (some 290), .inl (s), .inl (k), .inl (w)] (298, ShF, I, R) (PF (I 291 (3 + 27 * s + (3 + 3 * k + w))) I R) := by
  refine CC_of (own := RX8) (ini := false) (by decide +kernel) rfl (fun h => absurd h (by decide)) (Nat.le_of_ble_eq_true rfl) ?_
  show WW cX8_stopOf RX8 4 (some .int) false 3 0 0 (PF (I 291 (3 + 27 * s + (3 + 3 * k + w))) I R) 0 0 0 [some (.inr (some 290)), some (.inl (s)), some (.inl (k)), some (.inl (w))] [] (298, ShF, I, R)
  refine r_aload_n dX8_stopOf_0 rfl ?_
  refine r_iload_n dX8_stopOf_1 rfl ?_
  refine r_iconst dX8_stopOf_2 ?_
  refine r_iconst dX8_stopOf_3 ?_
  refine r_iload_n dX8_stopOf_4 rfl ?_
  refine r_imul dX8_stopOf_5 ?_
  refine r_iadd dX8_stopOf_6 ?_
  refine r_iload_n dX8_stopOf_7 rfl ?_
  refine r_iadd dX8_stopOf_8 ?_
  refine q_callVF lk_X8_44 dX8_stopOf_9 (m_of I R hRO s (3 + 3 * k + w) h) (by decide) sf_290 rfl rfl (Nat.le_of_ble_eq_true rfl) (by decide) ?_
  refine q_iretF dX8_stopOf_12 rfl ?_
  rfl
set_option maxHeartbeats 4000000 in
set_option maxRecDepth 100000 in
theorem m_isParagraph (I : Mem) (R : RMem) (hRO : RefOk R) (c : Int) (hc : I 291 2 = c) (hc8 : 0 ≤ c ∧ c ≤ 8) (p : Int) (hp : -2147483648 ≤ p ∧ p ≤ 2147483647) : CC 2 0 0 yX8_isParagraph cX8_isParagraph 2 (some .boolean) [.inr (some 290), .inl (p)] (298, ShF, I, R) (PF (b2i (0 ≤ p ∧ p ≤ c - 1)) I R) := by
  refine CC_of (own := RX8) (ini := false) (by decide +kernel) rfl (fun h => absurd h (by decide)) (Nat.le_of_ble_eq_true rfl) ?_
  show WW cX8_isParagraph RX8 2 (some .boolean) false 2 0 0 (PF (b2i (0 ≤ p ∧ p ≤ c - 1)) I R) 0 0 0 [some (.inr (some 290)), some (.inl (p))] [] (298, ShF, I, R)
  refine r_iload_n dX8_isParagraph_0 rfl ?_
  refine r_iconst dX8_isParagraph_1 ?_
  refine r_aload_n dX8_isParagraph_2 rfl ?_
  refine q_getR fl_X8_7 dX8_isParagraph_3 sf_290 (ro_290_0 hRO) ?_
  refine r_iconst dX8_isParagraph_6 ?_
  refine q_iald dX8_isParagraph_7 sf_291 (by omega) ?_
  rw [hc]
  refine r_iconst dX8_isParagraph_8 ?_
  refine r_isub dX8_isParagraph_9 ?_
  refine q_callSF lk_X8_36 dX8_isParagraph_10 (c_in I R p 0 (c - 1) hp (by decide) (by omega)) (by decide) rfl rfl (Nat.le_of_ble_eq_true rfl) (by decide) ?_
  refine q_zretF dX8_isParagraph_13 rfl (b2i_01 _) ?_
  rfl
set_option maxHeartbeats 4000000 in
set_option maxRecDepth 100000 in
theorem m_notes (I : Mem) (R : RMem) (hRO : RefOk R) (a : AS) (hM : MI I a) : CC 1 0 0 yX8_notes cX8_notes 2 none [.inr (some 290)] (298, ShF, I, R) (PW R (fun I1 => MI I1 (psh a) ∧ ∀ (x : Nat) (j : Int), x ≠ 292 → ¬ (x = 290 ∧ j = 2) → I1 x j = I x j)) := by
  have hn6 := hM.1.2.1
  have hpn := hM.2.2.1
  have hcopy : ∀ (c : Int), (0 ≤ c ∧ c ≤ 5) → (nS a.2.1 : Int) = c + 1 → (∀ j : Nat, (j : Int) < c → ∃ I0 : Int → Int, AtM I0 (pushS a.2.2.1 a.2.1 a.1 j) ∧ ∀ q : Int, 0 ≤ q → q < 767 → I0 q = (if a.2.1 = 6 then I 292 (767 * ((j : Int) + 1) + q) else I 292 (767 * j + q))) → pushS a.2.2.1 a.2.1 a.1 c.toNat = a.1 → ∀ (n : Nat) (k : Int) (I1 : Mem), 767 < k + n → 0 ≤ k → k ≤ 767 → I1 290 2 = c → (∀ q : Int, 0 ≤ q → q < 767 * c → I1 292 q = if a.2.1 = 6 then I 292 (q + 767) else I 292 q) → (∀ q : Int, 0 ≤ q → q < k → I1 292 (767 * c + q) = I 291 q) → (∀ (x : Nat) (j : Int), x ≠ 292 → ¬ (x = 290 ∧ j = 2) → I1 x j = I x j) → WW cX8_notes RX8 2 none false 1 0 0 (PW R (fun I1 => MI I1 (psh a) ∧ ∀ (x : Nat) (j : Int), x ≠ 292 → ¬ (x = 290 ∧ j = 2) → I1 x j = I x j)) 0 0 52 [some (.inr (some 290)), some (.inl k)] [] (298, ShF, I1, R) := by
    intro c hc hns hold htop n
    induction n with
    | zero => intros; exfalso; omega
    | succ n ih =>
      intro k I1 g1 g2 g3 g4 g5 g6 g7
      refine r_iload_n dX8_notes_52 rfl ?_
      refine r_sipush dX8_notes_53 (by decide) ?_
      refine r_icmpge (tgt := 86) dX8_notes_56 (by decide) (by omega) (by omega) (fun h56 => ?_) (fun h56 => ?_)
      · refine r_aload_n dX8_notes_86 rfl ?_
        refine r_dup dX8_notes_87 ?_
        refine q_getI fl_X8_32 dX8_notes_88 sf_290 ?_
        refine r_iconst dX8_notes_91 ?_
        refine r_iadd dX8_notes_92 ?_
        refine q_putI fl_X8_32 dX8_notes_93 sf_290 ?_
        refine q_vretW dX8_notes_96 rfl ?_
        have hk : ∀ (x : Nat) (j : Int), x ≠ 292 → ¬ (x = 290 ∧ j = 2) → u2 I1 290 2 (I1 290 2 + 1) x j = I x j := fun x j h1 h2 => by rw [u2_n (by omega)]; exact g7 x j h1 h2
        refine ⟨⟨hM.1.psh, hM.2.1.congr hM.1.1 (fun j _ _ => hk _ _ (by decide) (by omega)), ?_, fun j hj => ?_, (hk _ _ (by decide) (by omega)).trans hM.2.2.2.2.1, fun j h1 h2 => (hk _ _ (by decide) (by omega)).trans (hM.2.2.2.2.2 j h1 h2)⟩, hk⟩
        · rw [u2_s, g4]
          exact hns.symm
        · have hj : j < nS a.2.1 := hj
          have hwf := hM.1.psh.2.2.1 j hj
          by_cases hjc : (j : Int) = c
          · have hjc2 : j = c.toNat := by omega
            show AtM _ (pushS a.2.2.1 a.2.1 a.1 j)
            have hwf : WfS (pushS a.2.2.1 a.2.1 a.1 j) := hwf
            rw [hjc2, htop] at hwf ⊢
            refine hM.2.1.congr hM.1.1 (fun q h1 h2 => ?_)
            show u2 I1 290 2 _ 292 (767 * ((c.toNat : Nat) : Int) + q) = _
            rw [u2_n (Or.inl (by decide)), show ((c.toNat : Nat) : Int) = c by omega]
            exact g6 q h1 (by omega)
          · obtain ⟨I0, h1, h2⟩ := hold j (by omega)
            refine h1.congr hwf (fun q q1 q2 => ?_)
            show u2 I1 290 2 _ 292 (767 * (j : Int) + q) = _
            rw [u2_n (Or.inl (by decide)), g5 _ (by omega) (by omega), h2 q q1 q2, show 767 * (j : Int) + q + 767 = 767 * ((j : Int) + 1) + q by omega]
      · refine r_aload_n dX8_notes_59 rfl ?_
        refine q_getR fl_X8_13 dX8_notes_60 sf_290 (ro_290_1 hRO) ?_
        refine r_sipush dX8_notes_63 (by decide) ?_
        refine r_aload_n dX8_notes_66 rfl ?_
        refine q_getI fl_X8_32 dX8_notes_67 sf_290 ?_
        rw [g4]
        refine r_imul dX8_notes_70 ?_
        refine r_iload_n dX8_notes_71 rfl ?_
        refine r_iadd dX8_notes_72 ?_
        refine r_aload_n dX8_notes_73 rfl ?_
        refine q_getR fl_X8_7 dX8_notes_74 sf_290 (ro_290_0 hRO) ?_
        refine r_iload_n dX8_notes_77 rfl ?_
        refine q_iald dX8_notes_78 sf_291 (by omega) ?_
        rw [g7 _ _ (by decide) (by omega)]
        refine q_iast dX8_notes_79 sf_292 (by omega) ?_
        refine r_iinc dX8_notes_80 rfl (by decide) ?_
        dsimp only [lset]
        refine r_goto (tgt := 52) dX8_notes_83 (by decide) ?_
        refine ih _ _ (by omega) (by omega) (by omega) ((u2_n (Or.inl (by decide))).trans g4) (fun q h1 h2 => (u2_n (Or.inr (by omega))).trans (g5 q h1 h2)) (fun q h1 h2 => ?_) (fun x j h1 h2 => (u2_n (Or.inl h1)).trans (g7 x j h1 h2))
        rw [u2_at]
        by_cases hq : q = k
        · rw [if_pos ⟨rfl, by omega⟩, hq]
        · rw [if_neg (by omega)]
          exact g6 q h1 (by omega)
  have hloop : ∀ (n : Nat) (k : Int) (I1 : Mem), 3835 < k + n → 0 ≤ k → k ≤ 3835 → (∀ q : Int, 0 ≤ q → q < k → I1 292 q = I 292 (q + 767)) → (∀ q : Int, k ≤ q → I1 292 q = I 292 q) → (∀ (x : Nat) (j : Int), x ≠ 292 → I1 x j = I x j) → a.2.1 = 6 → WW cX8_notes RX8 2 none false 1 0 0 (PW R (fun I1 => MI I1 (psh a) ∧ ∀ (x : Nat) (j : Int), x ≠ 292 → ¬ (x = 290 ∧ j = 2) → I1 x j = I x j)) 0 0 11 [some (.inr (some 290)), some (.inl (k))] [] (298, ShF, I1, R) := by
    intro n
    induction n with
    | zero => intros; exfalso; omega
    | succ n ih =>
      intro k I1 g1 g2 g3 g4 g5 g6 g7
      refine r_iload_n dX8_notes_11 rfl ?_
      refine r_sipush dX8_notes_12 (by decide) ?_
      refine r_icmpge (tgt := 40) dX8_notes_15 (by decide) (by omega) (by omega) (fun h15 => ?_) (fun h15 => ?_)
      · refine r_aload_n dX8_notes_40 rfl ?_
        refine r_dup dX8_notes_41 ?_
        refine q_getI fl_X8_32 dX8_notes_42 sf_290 ?_
        rw [g6 _ _ (by decide), hpn]
        refine r_iconst dX8_notes_45 ?_
        refine r_isub dX8_notes_46 ?_
        refine q_putI fl_X8_32 dX8_notes_47 sf_290 ?_
        refine r_iconst dX8_notes_50 ?_
        refine r_istore_n dX8_notes_51 (by decide) ?_
        dsimp only [lset]
        refine hcopy _ (by omega) ?_ ?_ ?_ 768 0 _ (by omega) (by omega) (by omega) u2_s (fun q h1 h2 => ?_) (fun q h1 h2 => by omega) (fun x j h1 h2 => (u2_n (by omega)).trans (g6 x j h1))
        · unfold nS
          rw [if_pos g7]
          omega
        · intro j hj
          have h1 := hM.2.2.2.1 (j + 1) (by omega)
          refine ⟨_, ?_, fun q _ _ => (if_pos g7).symm⟩
          unfold pushS
          rw [if_pos g7, if_neg (by omega)]
          exact h1
        · unfold pushS
          rw [if_pos g7, if_pos (by omega)]
        · rw [u2_n (Or.inl (by decide)), if_pos g7]
          exact g4 q h1 (by omega)
      · refine r_aload_n dX8_notes_18 rfl ?_
        refine q_getR fl_X8_13 dX8_notes_19 sf_290 (ro_290_1 hRO) ?_
        refine r_iload_n dX8_notes_22 rfl ?_
        refine r_aload_n dX8_notes_23 rfl ?_
        refine q_getR fl_X8_13 dX8_notes_24 sf_290 (ro_290_1 hRO) ?_
        refine r_iload_n dX8_notes_27 rfl ?_
        refine r_sipush dX8_notes_28 (by decide) ?_
        refine r_iadd dX8_notes_31 ?_
        refine q_iald dX8_notes_32 sf_292 (by omega) ?_
        refine q_iast dX8_notes_33 sf_292 (by omega) ?_
        refine r_iinc dX8_notes_34 rfl (by decide) ?_
        dsimp only [lset]
        refine r_goto (tgt := 11) dX8_notes_37 (by decide) ?_
        refine ih _ _ (by omega) (by omega) (by omega) (fun q h1 h2 => ?_) (fun q h1 => (u2_n (Or.inr (by omega))).trans (g5 q (by omega))) (fun x j h1 => (u2_n (Or.inl h1)).trans (g6 x j h1)) g7
        rw [u2_at]
        by_cases hq : q = k
        · rw [if_pos ⟨rfl, hq⟩, hq]
          exact g5 _ (by omega)
        · rw [if_neg (fun z => hq z.2)]
          exact g4 q h1 (by omega)
  refine CC_of (own := RX8) (ini := false) (by decide +kernel) rfl (fun h => absurd h (by decide)) (Nat.le_of_ble_eq_true rfl) ?_
  show WW cX8_notes RX8 2 none false 1 0 0 (PW R (fun I1 => MI I1 (psh a) ∧ ∀ (x : Nat) (j : Int), x ≠ 292 → ¬ (x = 290 ∧ j = 2) → I1 x j = I x j)) 0 0 0 [some (.inr (some 290)), none] [] (298, ShF, I, R)
  refine r_aload_n dX8_notes_0 rfl ?_
  refine q_getI fl_X8_32 dX8_notes_1 sf_290 ?_
  rw [hpn]
  refine r_bipush dX8_notes_4 (by decide) ?_
  refine r_icmpne (tgt := 50) dX8_notes_6 (by decide) (by omega) (by omega) (fun h6 => ?_) (fun h6 => ?_)
  · refine r_iconst dX8_notes_50 ?_
    refine r_istore_n dX8_notes_51 (by decide) ?_
    dsimp only [lset]
    refine hcopy a.2.1 (by omega) ?_ ?_ ?_ 768 0 _ (by omega) (by omega) (by omega) hpn (fun q h1 h2 => (if_neg (by omega)).symm) (fun q h1 h2 => by omega) (fun _ _ _ _ => rfl)
    · unfold nS
      rw [if_neg (by omega)]
      omega
    · intro j hj
      refine ⟨_, ?_, fun q _ _ => (if_neg (by omega)).symm⟩
      unfold pushS
      rw [if_neg (by omega), if_neg (by omega)]
      exact hM.2.2.2.1 j (by omega)
    · unfold pushS
      rw [if_neg (by omega), if_pos (by omega)]
  · refine r_iconst dX8_notes_9 ?_
    refine r_istore_n dX8_notes_10 (by decide) ?_
    dsimp only [lset]
    exact hloop 3836 _ _ (by omega) (by omega) (by omega) (fun q h1 h2 => by omega) (fun _ _ => rfl) (fun _ _ _ => rfl) (by omega)
set_option maxHeartbeats 4000000 in
set_option maxRecDepth 100000 in
theorem m_setNumber (I : Mem) (R : RMem) (hRO : RefOk R) (a : AS) (hM : MI I a) (wh : Int) (hwh : -2147483648 ≤ wh ∧ wh ≤ 2147483647) (v : Int) (hv : -2147483648 ≤ v ∧ v ≤ 2147483647) : CC 3 0 0 yX8_setNumber cX8_setNumber 4 (some .int) [.inr (some 290), .inl (wh), .inl (v)] (298, ShF, I, R) (PM (aSetNumber a wh v) I R) := by
  have hA := hM.1
  have hW := hA.1
  have hW1 := hW.1
  have hW2 := hW.2.1
  have hW3 := hW.2.2.1
  have hS := hM.2.1
  refine CC_of (own := RX8) (ini := false) (by decide +kernel) rfl (fun h => absurd h (by decide)) (Nat.le_of_ble_eq_true rfl) ?_
  show WW cX8_setNumber RX8 4 (some .int) false 3 0 0 (PM (aSetNumber a wh v) I R) 0 0 0 [some (.inr (some 290)), some (.inl (wh)), some (.inl (v)), none] [] (298, ShF, I, R)
  refine r_iload_n dX8_setNumber_0 rfl ?_
  refine r_iconst dX8_setNumber_1 ?_
  refine r_iconst dX8_setNumber_2 ?_
  refine q_callSF lk_X8_36 dX8_setNumber_3 (c_in I R wh 0 1 hwh (by decide) (by decide)) (by decide) rfl rfl (Nat.le_of_ble_eq_true rfl) (by decide) ?_
  refine q_ifeqB (tgt := 37) dX8_setNumber_6 (by decide) (fun h6 => ?_) (fun h6 => ?_)
  · refine r_iconst dX8_setNumber_37 ?_
    refine q_iretZ dX8_setNumber_38 rfl ?_
    have e : aSetNumber a wh v = (-1, a) := by
      unfold aSetNumber
      rw [if_neg (by omega), if_neg (by omega)]
    rw [e]
    exact ⟨rfl, hM, fun _ _ _ => rfl⟩
  · refine r_iload_n dX8_setNumber_9 rfl ?_
    refine r_iload_n dX8_setNumber_10 rfl ?_
    refine r_ifne (tgt := 19) dX8_setNumber_11 (by decide) (by omega) (fun h11 => ?_) (fun h11 => ?_)
    · refine r_iconst dX8_setNumber_19 ?_
      refine r_iload_n dX8_setNumber_20 rfl ?_
      refine r_ifne (tgt := 29) dX8_setNumber_21 (by decide) (by omega) (fun h21 => ?_) (fun h21 => ?_)
      · refine r_bipush dX8_setNumber_29 (by decide) ?_
        refine q_callSF lk_X8_36 dX8_setNumber_31 (c_in I R v _ _ hv (by decide) (by decide)) (by decide) rfl rfl (Nat.le_of_ble_eq_true rfl) (by decide) ?_
        refine q_ifneB (tgt := 39) dX8_setNumber_34 (by decide) (fun h34 => ?_) (fun h34 => ?_)
        · refine r_aload_n dX8_setNumber_39 rfl ?_
          refine q_callVW lk_X8_47 dX8_setNumber_40 (m_notes I R hRO a hM) (by decide) sf_290 rfl rfl (Nat.le_of_ble_eq_true rfl) (by decide) (fun I1 hnt => ?_)
          obtain ⟨hM1, hk1⟩ := hnt
          have hS1 : AtM (I1 291) a.1 := hM1.2.1
          refine r_aload_n dX8_setNumber_43 rfl ?_
          refine q_getR fl_X8_7 dX8_setNumber_44 sf_290 (ro_290_0 hRO) ?_
          refine r_iload_n dX8_setNumber_47 rfl ?_
          refine q_iald dX8_setNumber_48 sf_291 (by omega) ?_
          refine r_istore_n dX8_setNumber_49 (by decide) ?_
          dsimp only [lset]
          refine r_aload_n dX8_setNumber_50 rfl ?_
          refine q_getR fl_X8_7 dX8_setNumber_51 sf_290 (ro_290_0 hRO) ?_
          refine r_iload_n dX8_setNumber_54 rfl ?_
          refine r_iload_n dX8_setNumber_55 rfl ?_
          refine q_iast dX8_setNumber_56 sf_291 (by omega) ?_
          refine r_iload_n dX8_setNumber_57 rfl ?_
          refine q_iretZ dX8_setNumber_58 rfl ?_
          first
            | (have hw0 : wh = 0 := by omega
               subst hw0
               have hvb : 20 ≤ v ∧ v ≤ 80 := by omega
               have e : aSetNumber a 0 v = (a.1.1.1, wS (psh a) ((v, a.1.1.2), a.1.2)) := by
                 unfold aSetNumber
                 rw [if_pos (by omega)]
               rw [e]
               refine ⟨hS1.1, hM1.st (σ := ((v, a.1.1.2), a.1.2)) ⟨hvb, hW2, hW3, hW.2.2.2⟩ ⟨u2_s, (u2_n (Or.inr (by decide))).trans hS1.2.1, (u2_n (Or.inr (by decide))).trans hS1.2.2.1, fun i h1 h2 => (hS1.2.2.2.1 i h1 h2).congr (hW.2.2.2.1 i.toNat (by omega)).2.2.2 (fun j q1 q2 => u2_n (Or.inr (by omega))), fun i h1 h2 => (hS1.2.2.2.2 i h1 h2).congr (hW.2.2.2.2 i.toNat (by have h2 : i < a.1.1.2.2 := h2; omega)).2.1.2 (fun j q1 q2 => u2_n (Or.inr (by have h2 : i < a.1.1.2.2 := h2; omega)))⟩ (fun x j h => u2_n (Or.inl h)), fun x j h => by rw [u2_n (Or.inl (by omega))]; exact hk1 x j (by omega) (by omega)⟩)
            | (have hw0 : wh = 1 := by omega
               subst hw0
               have hvb : 2 ≤ v ∧ v ≤ 20 := by omega
               have e : aSetNumber a 1 v = (a.1.1.2.1, wS (psh a) ((a.1.1.1, v, a.1.1.2.2), a.1.2)) := by
                 unfold aSetNumber
                 rw [if_neg (by omega), if_pos (by omega)]
               rw [e]
               refine ⟨hS1.2.1, hM1.st (σ := ((a.1.1.1, v, a.1.1.2.2), a.1.2)) ⟨hW1, hvb, hW3, hW.2.2.2⟩ ⟨(u2_n (Or.inr (by decide))).trans hS1.1, u2_s, (u2_n (Or.inr (by decide))).trans hS1.2.2.1, fun i h1 h2 => (hS1.2.2.2.1 i h1 h2).congr (hW.2.2.2.1 i.toNat (by omega)).2.2.2 (fun j q1 q2 => u2_n (Or.inr (by omega))), fun i h1 h2 => (hS1.2.2.2.2 i h1 h2).congr (hW.2.2.2.2 i.toNat (by have h2 : i < a.1.1.2.2 := h2; omega)).2.1.2 (fun j q1 q2 => u2_n (Or.inr (by have h2 : i < a.1.1.2.2 := h2; omega)))⟩ (fun x j h => u2_n (Or.inl h)), fun x j h => by rw [u2_n (Or.inl (by omega))]; exact hk1 x j (by omega) (by omega)⟩)
        · refine r_iconst dX8_setNumber_37 ?_
          refine q_iretZ dX8_setNumber_38 rfl ?_
          have e : aSetNumber a wh v = (-1, a) := by
            unfold aSetNumber
            rw [if_neg (by omega), if_neg (by omega)]
          rw [e]
          exact ⟨rfl, hM, fun _ _ _ => rfl⟩
      · refine r_bipush dX8_setNumber_24 (by decide) ?_
        refine r_goto (tgt := 31) dX8_setNumber_26 (by decide) ?_
        refine q_callSF lk_X8_36 dX8_setNumber_31 (c_in I R v _ _ hv (by decide) (by decide)) (by decide) rfl rfl (Nat.le_of_ble_eq_true rfl) (by decide) ?_
        refine q_ifneB (tgt := 39) dX8_setNumber_34 (by decide) (fun h34 => ?_) (fun h34 => ?_)
        · refine r_aload_n dX8_setNumber_39 rfl ?_
          refine q_callVW lk_X8_47 dX8_setNumber_40 (m_notes I R hRO a hM) (by decide) sf_290 rfl rfl (Nat.le_of_ble_eq_true rfl) (by decide) (fun I1 hnt => ?_)
          obtain ⟨hM1, hk1⟩ := hnt
          have hS1 : AtM (I1 291) a.1 := hM1.2.1
          refine r_aload_n dX8_setNumber_43 rfl ?_
          refine q_getR fl_X8_7 dX8_setNumber_44 sf_290 (ro_290_0 hRO) ?_
          refine r_iload_n dX8_setNumber_47 rfl ?_
          refine q_iald dX8_setNumber_48 sf_291 (by omega) ?_
          refine r_istore_n dX8_setNumber_49 (by decide) ?_
          dsimp only [lset]
          refine r_aload_n dX8_setNumber_50 rfl ?_
          refine q_getR fl_X8_7 dX8_setNumber_51 sf_290 (ro_290_0 hRO) ?_
          refine r_iload_n dX8_setNumber_54 rfl ?_
          refine r_iload_n dX8_setNumber_55 rfl ?_
          refine q_iast dX8_setNumber_56 sf_291 (by omega) ?_
          refine r_iload_n dX8_setNumber_57 rfl ?_
          refine q_iretZ dX8_setNumber_58 rfl ?_
          first
            | (have hw0 : wh = 0 := by omega
               subst hw0
               have hvb : 20 ≤ v ∧ v ≤ 80 := by omega
               have e : aSetNumber a 0 v = (a.1.1.1, wS (psh a) ((v, a.1.1.2), a.1.2)) := by
                 unfold aSetNumber
                 rw [if_pos (by omega)]
               rw [e]
               refine ⟨hS1.1, hM1.st (σ := ((v, a.1.1.2), a.1.2)) ⟨hvb, hW2, hW3, hW.2.2.2⟩ ⟨u2_s, (u2_n (Or.inr (by decide))).trans hS1.2.1, (u2_n (Or.inr (by decide))).trans hS1.2.2.1, fun i h1 h2 => (hS1.2.2.2.1 i h1 h2).congr (hW.2.2.2.1 i.toNat (by omega)).2.2.2 (fun j q1 q2 => u2_n (Or.inr (by omega))), fun i h1 h2 => (hS1.2.2.2.2 i h1 h2).congr (hW.2.2.2.2 i.toNat (by have h2 : i < a.1.1.2.2 := h2; omega)).2.1.2 (fun j q1 q2 => u2_n (Or.inr (by have h2 : i < a.1.1.2.2 := h2; omega)))⟩ (fun x j h => u2_n (Or.inl h)), fun x j h => by rw [u2_n (Or.inl (by omega))]; exact hk1 x j (by omega) (by omega)⟩)
            | (have hw0 : wh = 1 := by omega
               subst hw0
               have hvb : 2 ≤ v ∧ v ≤ 20 := by omega
               have e : aSetNumber a 1 v = (a.1.1.2.1, wS (psh a) ((a.1.1.1, v, a.1.1.2.2), a.1.2)) := by
                 unfold aSetNumber
                 rw [if_neg (by omega), if_pos (by omega)]
               rw [e]
               refine ⟨hS1.2.1, hM1.st (σ := ((a.1.1.1, v, a.1.1.2.2), a.1.2)) ⟨hW1, hvb, hW3, hW.2.2.2⟩ ⟨(u2_n (Or.inr (by decide))).trans hS1.1, u2_s, (u2_n (Or.inr (by decide))).trans hS1.2.2.1, fun i h1 h2 => (hS1.2.2.2.1 i h1 h2).congr (hW.2.2.2.1 i.toNat (by omega)).2.2.2 (fun j q1 q2 => u2_n (Or.inr (by omega))), fun i h1 h2 => (hS1.2.2.2.2 i h1 h2).congr (hW.2.2.2.2 i.toNat (by have h2 : i < a.1.1.2.2 := h2; omega)).2.1.2 (fun j q1 q2 => u2_n (Or.inr (by have h2 : i < a.1.1.2.2 := h2; omega)))⟩ (fun x j h => u2_n (Or.inl h)), fun x j h => by rw [u2_n (Or.inl (by omega))]; exact hk1 x j (by omega) (by omega)⟩)
        · refine r_iconst dX8_setNumber_37 ?_
          refine q_iretZ dX8_setNumber_38 rfl ?_
          have e : aSetNumber a wh v = (-1, a) := by
            unfold aSetNumber
            rw [if_neg (by omega), if_neg (by omega)]
          rw [e]
          exact ⟨rfl, hM, fun _ _ _ => rfl⟩
    · refine r_bipush dX8_setNumber_14 (by decide) ?_
      refine r_goto (tgt := 20) dX8_setNumber_16 (by decide) ?_
      refine r_iload_n dX8_setNumber_20 rfl ?_
      refine r_ifne (tgt := 29) dX8_setNumber_21 (by decide) (by omega) (fun h21 => ?_) (fun h21 => ?_)
      · refine r_bipush dX8_setNumber_29 (by decide) ?_
        refine q_callSF lk_X8_36 dX8_setNumber_31 (c_in I R v _ _ hv (by decide) (by decide)) (by decide) rfl rfl (Nat.le_of_ble_eq_true rfl) (by decide) ?_
        refine q_ifneB (tgt := 39) dX8_setNumber_34 (by decide) (fun h34 => ?_) (fun h34 => ?_)
        · refine r_aload_n dX8_setNumber_39 rfl ?_
          refine q_callVW lk_X8_47 dX8_setNumber_40 (m_notes I R hRO a hM) (by decide) sf_290 rfl rfl (Nat.le_of_ble_eq_true rfl) (by decide) (fun I1 hnt => ?_)
          obtain ⟨hM1, hk1⟩ := hnt
          have hS1 : AtM (I1 291) a.1 := hM1.2.1
          refine r_aload_n dX8_setNumber_43 rfl ?_
          refine q_getR fl_X8_7 dX8_setNumber_44 sf_290 (ro_290_0 hRO) ?_
          refine r_iload_n dX8_setNumber_47 rfl ?_
          refine q_iald dX8_setNumber_48 sf_291 (by omega) ?_
          refine r_istore_n dX8_setNumber_49 (by decide) ?_
          dsimp only [lset]
          refine r_aload_n dX8_setNumber_50 rfl ?_
          refine q_getR fl_X8_7 dX8_setNumber_51 sf_290 (ro_290_0 hRO) ?_
          refine r_iload_n dX8_setNumber_54 rfl ?_
          refine r_iload_n dX8_setNumber_55 rfl ?_
          refine q_iast dX8_setNumber_56 sf_291 (by omega) ?_
          refine r_iload_n dX8_setNumber_57 rfl ?_
          refine q_iretZ dX8_setNumber_58 rfl ?_
          first
            | (have hw0 : wh = 0 := by omega
               subst hw0
               have hvb : 20 ≤ v ∧ v ≤ 80 := by omega
               have e : aSetNumber a 0 v = (a.1.1.1, wS (psh a) ((v, a.1.1.2), a.1.2)) := by
                 unfold aSetNumber
                 rw [if_pos (by omega)]
               rw [e]
               refine ⟨hS1.1, hM1.st (σ := ((v, a.1.1.2), a.1.2)) ⟨hvb, hW2, hW3, hW.2.2.2⟩ ⟨u2_s, (u2_n (Or.inr (by decide))).trans hS1.2.1, (u2_n (Or.inr (by decide))).trans hS1.2.2.1, fun i h1 h2 => (hS1.2.2.2.1 i h1 h2).congr (hW.2.2.2.1 i.toNat (by omega)).2.2.2 (fun j q1 q2 => u2_n (Or.inr (by omega))), fun i h1 h2 => (hS1.2.2.2.2 i h1 h2).congr (hW.2.2.2.2 i.toNat (by have h2 : i < a.1.1.2.2 := h2; omega)).2.1.2 (fun j q1 q2 => u2_n (Or.inr (by have h2 : i < a.1.1.2.2 := h2; omega)))⟩ (fun x j h => u2_n (Or.inl h)), fun x j h => by rw [u2_n (Or.inl (by omega))]; exact hk1 x j (by omega) (by omega)⟩)
            | (have hw0 : wh = 1 := by omega
               subst hw0
               have hvb : 2 ≤ v ∧ v ≤ 20 := by omega
               have e : aSetNumber a 1 v = (a.1.1.2.1, wS (psh a) ((a.1.1.1, v, a.1.1.2.2), a.1.2)) := by
                 unfold aSetNumber
                 rw [if_neg (by omega), if_pos (by omega)]
               rw [e]
               refine ⟨hS1.2.1, hM1.st (σ := ((a.1.1.1, v, a.1.1.2.2), a.1.2)) ⟨hW1, hvb, hW3, hW.2.2.2⟩ ⟨(u2_n (Or.inr (by decide))).trans hS1.1, u2_s, (u2_n (Or.inr (by decide))).trans hS1.2.2.1, fun i h1 h2 => (hS1.2.2.2.1 i h1 h2).congr (hW.2.2.2.1 i.toNat (by omega)).2.2.2 (fun j q1 q2 => u2_n (Or.inr (by omega))), fun i h1 h2 => (hS1.2.2.2.2 i h1 h2).congr (hW.2.2.2.2 i.toNat (by have h2 : i < a.1.1.2.2 := h2; omega)).2.1.2 (fun j q1 q2 => u2_n (Or.inr (by have h2 : i < a.1.1.2.2 := h2; omega)))⟩ (fun x j h => u2_n (Or.inl h)), fun x j h => by rw [u2_n (Or.inl (by omega))]; exact hk1 x j (by omega) (by omega)⟩)
        · refine r_iconst dX8_setNumber_37 ?_
          refine q_iretZ dX8_setNumber_38 rfl ?_
          have e : aSetNumber a wh v = (-1, a) := by
            unfold aSetNumber
            rw [if_neg (by omega), if_neg (by omega)]
          rw [e]
          exact ⟨rfl, hM, fun _ _ _ => rfl⟩
      · refine r_bipush dX8_setNumber_24 (by decide) ?_
        refine r_goto (tgt := 31) dX8_setNumber_26 (by decide) ?_
        refine q_callSF lk_X8_36 dX8_setNumber_31 (c_in I R v _ _ hv (by decide) (by decide)) (by decide) rfl rfl (Nat.le_of_ble_eq_true rfl) (by decide) ?_
        refine q_ifneB (tgt := 39) dX8_setNumber_34 (by decide) (fun h34 => ?_) (fun h34 => ?_)
        · refine r_aload_n dX8_setNumber_39 rfl ?_
          refine q_callVW lk_X8_47 dX8_setNumber_40 (m_notes I R hRO a hM) (by decide) sf_290 rfl rfl (Nat.le_of_ble_eq_true rfl) (by decide) (fun I1 hnt => ?_)
          obtain ⟨hM1, hk1⟩ := hnt
          have hS1 : AtM (I1 291) a.1 := hM1.2.1
          refine r_aload_n dX8_setNumber_43 rfl ?_
          refine q_getR fl_X8_7 dX8_setNumber_44 sf_290 (ro_290_0 hRO) ?_
          refine r_iload_n dX8_setNumber_47 rfl ?_
          refine q_iald dX8_setNumber_48 sf_291 (by omega) ?_
          refine r_istore_n dX8_setNumber_49 (by decide) ?_
          dsimp only [lset]
          refine r_aload_n dX8_setNumber_50 rfl ?_
          refine q_getR fl_X8_7 dX8_setNumber_51 sf_290 (ro_290_0 hRO) ?_
          refine r_iload_n dX8_setNumber_54 rfl ?_
          refine r_iload_n dX8_setNumber_55 rfl ?_
          refine q_iast dX8_setNumber_56 sf_291 (by omega) ?_
          refine r_iload_n dX8_setNumber_57 rfl ?_
          refine q_iretZ dX8_setNumber_58 rfl ?_
          first
            | (have hw0 : wh = 0 := by omega
               subst hw0
               have hvb : 20 ≤ v ∧ v ≤ 80 := by omega
               have e : aSetNumber a 0 v = (a.1.1.1, wS (psh a) ((v, a.1.1.2), a.1.2)) := by
                 unfold aSetNumber
                 rw [if_pos (by omega)]
               rw [e]
               refine ⟨hS1.1, hM1.st (σ := ((v, a.1.1.2), a.1.2)) ⟨hvb, hW2, hW3, hW.2.2.2⟩ ⟨u2_s, (u2_n (Or.inr (by decide))).trans hS1.2.1, (u2_n (Or.inr (by decide))).trans hS1.2.2.1, fun i h1 h2 => (hS1.2.2.2.1 i h1 h2).congr (hW.2.2.2.1 i.toNat (by omega)).2.2.2 (fun j q1 q2 => u2_n (Or.inr (by omega))), fun i h1 h2 => (hS1.2.2.2.2 i h1 h2).congr (hW.2.2.2.2 i.toNat (by have h2 : i < a.1.1.2.2 := h2; omega)).2.1.2 (fun j q1 q2 => u2_n (Or.inr (by have h2 : i < a.1.1.2.2 := h2; omega)))⟩ (fun x j h => u2_n (Or.inl h)), fun x j h => by rw [u2_n (Or.inl (by omega))]; exact hk1 x j (by omega) (by omega)⟩)
            | (have hw0 : wh = 1 := by omega
               subst hw0
               have hvb : 2 ≤ v ∧ v ≤ 20 := by omega
               have e : aSetNumber a 1 v = (a.1.1.2.1, wS (psh a) ((a.1.1.1, v, a.1.1.2.2), a.1.2)) := by
                 unfold aSetNumber
                 rw [if_neg (by omega), if_pos (by omega)]
               rw [e]
               refine ⟨hS1.2.1, hM1.st (σ := ((a.1.1.1, v, a.1.1.2.2), a.1.2)) ⟨hW1, hvb, hW3, hW.2.2.2⟩ ⟨(u2_n (Or.inr (by decide))).trans hS1.1, u2_s, (u2_n (Or.inr (by decide))).trans hS1.2.2.1, fun i h1 h2 => (hS1.2.2.2.1 i h1 h2).congr (hW.2.2.2.1 i.toNat (by omega)).2.2.2 (fun j q1 q2 => u2_n (Or.inr (by omega))), fun i h1 h2 => (hS1.2.2.2.2 i h1 h2).congr (hW.2.2.2.2 i.toNat (by have h2 : i < a.1.1.2.2 := h2; omega)).2.1.2 (fun j q1 q2 => u2_n (Or.inr (by have h2 : i < a.1.1.2.2 := h2; omega)))⟩ (fun x j h => u2_n (Or.inl h)), fun x j h => by rw [u2_n (Or.inl (by omega))]; exact hk1 x j (by omega) (by omega)⟩)
        · refine r_iconst dX8_setNumber_37 ?_
          refine q_iretZ dX8_setNumber_38 rfl ?_
          have e : aSetNumber a wh v = (-1, a) := by
            unfold aSetNumber
            rw [if_neg (by omega), if_neg (by omega)]
          rw [e]
          exact ⟨rfl, hM, fun _ _ _ => rfl⟩
set_option maxHeartbeats 4000000 in
set_option maxRecDepth 100000 in
theorem m_setIndent (I : Mem) (R : RMem) (hRO : RefOk R) (a : AS) (hM : MI I a) (s : Int) (hs : -2147483648 ≤ s ∧ s ≤ 2147483647) (wh : Int) (hwh : -2147483648 ≤ wh ∧ wh ≤ 2147483647) (v : Int) (hv : -2147483648 ≤ v ∧ v ≤ 2147483647) : CC 3 0 0 yX8_setIndent cX8_setIndent 5 (some .int) [.inr (some 290), .inl (s), .inl (wh), .inl (v)] (298, ShF, I, R) (PM (aSetIndent a s wh v) I R) := by
  have hA := hM.1
  have hW := hA.1
  have hW1 := hW.1
  have hW2 := hW.2.1
  have hW3 := hW.2.2.1
  have hS := hM.2.1
  refine CC_of (own := RX8) (ini := false) (by decide +kernel) rfl (fun h => absurd h (by decide)) (Nat.le_of_ble_eq_true rfl) ?_
  show WW cX8_setIndent RX8 5 (some .int) false 3 0 0 (PM (aSetIndent a s wh v) I R) 0 0 0 [some (.inr (some 290)), some (.inl (s)), some (.inl (wh)), some (.inl (v)), none] [] (298, ShF, I, R)
  refine r_iload_n dX8_setIndent_0 rfl ?_
  refine q_callSF lk_X8_50 dX8_setIndent_1 (m_isStyle I R s hs) (by decide) rfl rfl (Nat.le_of_ble_eq_true rfl) (by decide) ?_
  refine q_ifeqB (tgt := 26) dX8_setIndent_4 (by decide) (fun h4 => ?_) (fun h4 => ?_)
  · refine r_iconst dX8_setIndent_26 ?_
    refine q_iretZ dX8_setIndent_27 rfl ?_
    have e : aSetIndent a s wh v = (-1, a) := by
      unfold aSetIndent
      rw [if_neg (by omega)]
    rw [e]
    exact ⟨rfl, hM, fun _ _ _ => rfl⟩
  · refine r_iload_n dX8_setIndent_7 rfl ?_
    refine r_iconst dX8_setIndent_8 ?_
    refine r_iconst dX8_setIndent_9 ?_
    refine q_callSF lk_X8_36 dX8_setIndent_10 (c_in I R wh 0 1 hwh (by decide) (by decide)) (by decide) rfl rfl (Nat.le_of_ble_eq_true rfl) (by decide) ?_
    refine q_ifeqB (tgt := 26) dX8_setIndent_13 (by decide) (fun h13 => ?_) (fun h13 => ?_)
    · refine r_iconst dX8_setIndent_26 ?_
      refine q_iretZ dX8_setIndent_27 rfl ?_
      have e : aSetIndent a s wh v = (-1, a) := by
        unfold aSetIndent
        rw [if_neg (by omega)]
      rw [e]
      exact ⟨rfl, hM, fun _ _ _ => rfl⟩
    · refine r_iload_n dX8_setIndent_16 rfl ?_
      refine r_iconst dX8_setIndent_17 ?_
      refine r_bipush dX8_setIndent_18 (by decide) ?_
      refine q_callSF lk_X8_36 dX8_setIndent_20 (c_in I R v 0 19 hv (by decide) (by decide)) (by decide) rfl rfl (Nat.le_of_ble_eq_true rfl) (by decide) ?_
      refine q_ifneB (tgt := 28) dX8_setIndent_23 (by decide) (fun h23 => ?_) (fun h23 => ?_)
      · refine r_aload_n dX8_setIndent_28 rfl ?_
        refine q_callVW lk_X8_47 dX8_setIndent_29 (m_notes I R hRO a hM) (by decide) sf_290 rfl rfl (Nat.le_of_ble_eq_true rfl) (by decide) (fun I1 hnt => ?_)
        obtain ⟨hM1, hk1⟩ := hnt
        have hS1 : AtM (I1 291) a.1 := hM1.2.1
        refine r_aload_n dX8_setIndent_32 rfl ?_
        refine r_iload_n dX8_setIndent_33 rfl ?_
        refine r_iload_n dX8_setIndent_34 rfl ?_
        refine q_callVF lk_X8_44 dX8_setIndent_35 (m_of I1 R hRO s wh (by omega)) (by decide) sf_290 rfl rfl (Nat.le_of_ble_eq_true rfl) (by decide) ?_
        refine r_istore dX8_setIndent_38 (by decide) ?_
        dsimp only [lset]
        refine r_aload_n dX8_setIndent_40 rfl ?_
        refine q_getR fl_X8_7 dX8_setIndent_41 sf_290 (ro_290_0 hRO) ?_
        refine r_iload_n dX8_setIndent_44 rfl ?_
        refine r_iload_n dX8_setIndent_45 rfl ?_
        refine q_callSF lk_X8_40 dX8_setIndent_46 (m_placeOf I1 R s wh) (by decide) rfl rfl (Nat.le_of_ble_eq_true rfl) (by decide) ?_
        refine r_iload_n dX8_setIndent_49 rfl ?_
        refine q_iast dX8_setIndent_50 sf_291 (by omega) ?_
        refine r_iload dX8_setIndent_51 rfl ?_
        refine q_iretZ dX8_setIndent_53 rfl ?_
        rcases (show wh = 0 ∨ wh = 1 by omega) with hz | hz
        · have hw0 : wh = 0 := by omega
          subst hw0
          have hvb : 0 ≤ v ∧ v ≤ 19 := by omega
          have e : aSetIndent a s 0 v = ((a.1.2.1 s.toNat).1, wS (psh a) (a.1.1, upY a.1.2.1 s.toNat (v, (a.1.2.1 s.toNat).2), a.1.2.2)) := by
            unfold aSetIndent
            rw [if_pos (by omega), if_pos rfl]
          rw [e]
          have hys := hS1.2.2.2.1 s (by omega) (by omega)
          have hwy := hW.2.2.2.1 s.toNat (by omega)
          refine ⟨hys.1, hM1.st (σ := (a.1.1, upY a.1.2.1 s.toNat (v, (a.1.2.1 s.toNat).2), a.1.2.2)) ⟨hW1, hW2, hW3, fun i hi => ?_, hW.2.2.2.2⟩ ⟨(u2_n (Or.inr (by omega))).trans hS1.1, (u2_n (Or.inr (by omega))).trans hS1.2.1, (u2_n (Or.inr (by omega))).trans hS1.2.2.1, fun i h1 h2 => ?_, fun i h1 h2 => (hS1.2.2.2.2 i h1 h2).congr (hW.2.2.2.2 i.toNat (by have h2 : i < a.1.1.2.2 := h2; omega)).2.1.2 (fun j q1 q2 => u2_n (Or.inr (by have h2 : i < a.1.1.2.2 := h2; omega)))⟩ (fun x j h => u2_n (Or.inl h)), fun x j h => by rw [u2_n (Or.inl (by omega))]; exact hk1 x j (by omega) (by omega)⟩
          · show WfY (upY a.1.2.1 s.toNat _ i)
            unfold upY
            by_cases hi2 : i = s.toNat
            · rw [if_pos hi2]
              exact ⟨hvb, hwy.2.1, hwy.2.2⟩
            · rw [if_neg hi2]
              exact hW.2.2.2.1 i hi
          · show MY _ (upY a.1.2.1 s.toNat _ i.toNat)
            unfold upY
            by_cases hi2 : i = s
            · subst hi2
              rw [if_pos rfl]
              refine ⟨u2_s, (u2_n (Or.inr (by omega))).trans hys.2.1, (u2_n (Or.inr (by omega))).trans hys.2.2.1, fun p hp => ?_⟩
              have h3 := hys.2.2.2 p hp
              have h4 := (cntF_bd (a.1.2.1 i.toNat).2.2 (p - 1).toNat).1
              exact ⟨(u2_n (Or.inr (by show ¬ (3 + 27 * i + (3 + 3 * cntF (a.1.2.1 i.toNat).2.2 (p - 1).toNat) = _); omega))).trans h3.1, (u2_n (Or.inr (by show ¬ (3 + 27 * i + (3 + 3 * cntF (a.1.2.1 i.toNat).2.2 (p - 1).toNat + 1) = _); omega))).trans h3.2.1, (u2_n (Or.inr (by show ¬ (3 + 27 * i + (3 + 3 * cntF (a.1.2.1 i.toNat).2.2 (p - 1).toNat + 2) = _); omega))).trans h3.2.2⟩
            · rw [if_neg (by omega)]
              exact (hS1.2.2.2.1 i h1 h2).congr (hW.2.2.2.1 i.toNat (by omega)).2.2.2 (fun j q1 q2 => u2_n (Or.inr (by omega)))
        · have hw0 : wh = 1 := by omega
          subst hw0
          have hvb : 0 ≤ v ∧ v ≤ 19 := by omega
          have e : aSetIndent a s 1 v = ((a.1.2.1 s.toNat).2.1, wS (psh a) (a.1.1, upY a.1.2.1 s.toNat ((a.1.2.1 s.toNat).1, v, (a.1.2.1 s.toNat).2.2), a.1.2.2)) := by
            unfold aSetIndent
            rw [if_pos (by omega), if_neg (by decide)]
          rw [e]
          have hys := hS1.2.2.2.1 s (by omega) (by omega)
          have hwy := hW.2.2.2.1 s.toNat (by omega)
          refine ⟨hys.2.1, hM1.st (σ := (a.1.1, upY a.1.2.1 s.toNat ((a.1.2.1 s.toNat).1, v, (a.1.2.1 s.toNat).2.2), a.1.2.2)) ⟨hW1, hW2, hW3, fun i hi => ?_, hW.2.2.2.2⟩ ⟨(u2_n (Or.inr (by omega))).trans hS1.1, (u2_n (Or.inr (by omega))).trans hS1.2.1, (u2_n (Or.inr (by omega))).trans hS1.2.2.1, fun i h1 h2 => ?_, fun i h1 h2 => (hS1.2.2.2.2 i h1 h2).congr (hW.2.2.2.2 i.toNat (by have h2 : i < a.1.1.2.2 := h2; omega)).2.1.2 (fun j q1 q2 => u2_n (Or.inr (by have h2 : i < a.1.1.2.2 := h2; omega)))⟩ (fun x j h => u2_n (Or.inl h)), fun x j h => by rw [u2_n (Or.inl (by omega))]; exact hk1 x j (by omega) (by omega)⟩
          · show WfY (upY a.1.2.1 s.toNat _ i)
            unfold upY
            by_cases hi2 : i = s.toNat
            · rw [if_pos hi2]
              exact ⟨hwy.1, hvb, hwy.2.2⟩
            · rw [if_neg hi2]
              exact hW.2.2.2.1 i hi
          · show MY _ (upY a.1.2.1 s.toNat _ i.toNat)
            unfold upY
            by_cases hi2 : i = s
            · subst hi2
              rw [if_pos rfl]
              refine ⟨(u2_n (Or.inr (by omega))).trans hys.1, u2_s, (u2_n (Or.inr (by omega))).trans hys.2.2.1, fun p hp => ?_⟩
              have h3 := hys.2.2.2 p hp
              have h4 := (cntF_bd (a.1.2.1 i.toNat).2.2 (p - 1).toNat).1
              exact ⟨(u2_n (Or.inr (by show ¬ (3 + 27 * i + (3 + 3 * cntF (a.1.2.1 i.toNat).2.2 (p - 1).toNat) = _); omega))).trans h3.1, (u2_n (Or.inr (by show ¬ (3 + 27 * i + (3 + 3 * cntF (a.1.2.1 i.toNat).2.2 (p - 1).toNat + 1) = _); omega))).trans h3.2.1, (u2_n (Or.inr (by show ¬ (3 + 27 * i + (3 + 3 * cntF (a.1.2.1 i.toNat).2.2 (p - 1).toNat + 2) = _); omega))).trans h3.2.2⟩
            · rw [if_neg (by omega)]
              exact (hS1.2.2.2.1 i h1 h2).congr (hW.2.2.2.1 i.toNat (by omega)).2.2.2 (fun j q1 q2 => u2_n (Or.inr (by omega)))
      · refine r_iconst dX8_setIndent_26 ?_
        refine q_iretZ dX8_setIndent_27 rfl ?_
        have e : aSetIndent a s wh v = (-1, a) := by
          unfold aSetIndent
          rw [if_neg (by omega)]
        rw [e]
        exact ⟨rfl, hM, fun _ _ _ => rfl⟩
set_option maxHeartbeats 4000000 in
set_option maxRecDepth 100000 in
theorem m_undo (I : Mem) (R : RMem) (hRO : RefOk R) (a : AS) (hM : MI I a)  : CC 1 0 0 yX8_undo cX8_undo 2 (some .int) [.inr (some 290)] (298, ShF, I, R) (PM (aUndo a) I R) := by
  have hA := hM.1
  have hW := hA.1
  have hW1 := hW.1
  have hW2 := hW.2.1
  have hW3 := hW.2.2.1
  have hS := hM.2.1
  have hn6 := hA.2.1
  have hpn := hM.2.2.1
  have hloop : ∀ (n : Nat) (k : Int) (I1 : Mem), 767 < k + n → 0 ≤ k → k ≤ 767 → I1 290 2 = (a.2.1 : Int) - 1 → 1 ≤ a.2.1 → (∀ q : Int, 0 ≤ q → q < k → I1 291 q = I 292 (767 * ((a.2.1 : Int) - 1) + q)) → (∀ (x : Nat) (j : Int), x ≠ 291 → ¬ (x = 290 ∧ j = 2) → I1 x j = I x j) → WW cX8_undo RX8 2 (some .int) false 1 0 0 (PM (aUndo a) I R) 0 0 22 [some (.inr (some 290)), some (.inl (k))] [] (298, ShF, I1, R) := by
    intro n
    induction n with
    | zero => intros; exfalso; omega
    | succ n ih =>
      intro k I1 g1 g2 g3 g4 g5 g6 g7
      refine r_iload_n dX8_undo_22 rfl ?_
      refine r_sipush dX8_undo_23 (by decide) ?_
      refine r_icmpge (tgt := 56) dX8_undo_26 (by decide) (by omega) (by omega) (fun h26 => ?_) (fun h26 => ?_)
      · refine r_aload_n dX8_undo_56 rfl ?_
        refine q_getI fl_X8_32 dX8_undo_57 sf_290 ?_
        rw [g4]
        refine q_iretZ dX8_undo_60 rfl ?_
        have e : aUndo a = ((a.2.1 : Int) - 1, (a.2.2.1 (a.2.1 - 1), a.2.1 - 1, a.2.2)) := by
          unfold aUndo
          rw [if_neg (by omega)]
        rw [e]
        have hsv := hM.2.2.2.1 (a.2.1 - 1) (by omega)
        have hwf := hA.2.2.1 (a.2.1 - 1) (by omega)
        refine ⟨rfl, ⟨⟨hwf, by show a.2.1 - 1 ≤ 6; omega, fun j hj => hA.2.2.1 j (by have hj : j < a.2.1 - 1 := hj; omega), hA.2.2.2⟩, hsv.congr hwf (fun q h1 h2 => ?_), ?_, fun j hj => ?_, (g7 _ _ (by decide) (by omega)).trans hM.2.2.2.2.1, fun j h1 h2 => (g7 _ _ (by decide) (by omega)).trans (hM.2.2.2.2.2 j h1 h2)⟩, fun x j h => g7 x j (by omega) (by omega)⟩
        · rw [g6 q h1 (by omega)]
          show _ = I 292 (767 * ((a.2.1 - 1 : Nat) : Int) + q)
          rw [show ((a.2.1 - 1 : Nat) : Int) = (a.2.1 : Int) - 1 by omega]
        · rw [g4]
          show _ = ((a.2.1 - 1 : Nat) : Int)
          omega
        · have hj : j < a.2.1 - 1 := hj
          have ej : (fun q => I1 292 (767 * (j : Int) + q)) = fun q => I 292 (767 * (j : Int) + q) := funext fun q => g7 _ _ (by decide) (by omega)
          show AtM (fun q => I1 292 (767 * (j : Int) + q)) _
          rw [ej]
          exact hM.2.2.2.1 j (by omega)
      · refine r_aload_n dX8_undo_29 rfl ?_
        refine q_getR fl_X8_7 dX8_undo_30 sf_290 (ro_290_0 hRO) ?_
        refine r_iload_n dX8_undo_33 rfl ?_
        refine r_aload_n dX8_undo_34 rfl ?_
        refine q_getR fl_X8_13 dX8_undo_35 sf_290 (ro_290_1 hRO) ?_
        refine r_sipush dX8_undo_38 (by decide) ?_
        refine r_aload_n dX8_undo_41 rfl ?_
        refine q_getI fl_X8_32 dX8_undo_42 sf_290 ?_
        rw [g4]
        refine r_imul dX8_undo_45 ?_
        refine r_iload_n dX8_undo_46 rfl ?_
        refine r_iadd dX8_undo_47 ?_
        refine q_iald dX8_undo_48 sf_292 (by omega) ?_
        rw [g7 _ _ (by decide) (by omega)]
        refine q_iast dX8_undo_49 sf_291 (by omega) ?_
        refine r_iinc dX8_undo_50 rfl (by decide) ?_
        dsimp only [lset]
        refine r_goto (tgt := 22) dX8_undo_53 (by decide) ?_
        refine ih _ _ (by omega) (by omega) (by omega) ((u2_n (Or.inl (by decide))).trans g4) g5 (fun q h1 h2 => ?_) (fun x j h1 h2 => (u2_n (Or.inl h1)).trans (g7 x j h1 h2))
        rw [u2_at]
        by_cases hq : q = k
        · rw [if_pos ⟨rfl, hq⟩, hq]
        · rw [if_neg (fun z => hq z.2)]
          exact g6 q h1 (by omega)
  refine CC_of (own := RX8) (ini := false) (by decide +kernel) rfl (fun h => absurd h (by decide)) (Nat.le_of_ble_eq_true rfl) ?_
  show WW cX8_undo RX8 2 (some .int) false 1 0 0 (PM (aUndo a) I R) 0 0 0 [some (.inr (some 290)), none] [] (298, ShF, I, R)
  refine r_aload_n dX8_undo_0 rfl ?_
  refine q_getI fl_X8_32 dX8_undo_1 sf_290 ?_
  rw [hpn]
  refine r_ifne (tgt := 10) dX8_undo_4 (by decide) (by omega) (fun h4 => ?_) (fun h4 => ?_)
  · refine r_aload_n dX8_undo_10 rfl ?_
    refine r_dup dX8_undo_11 ?_
    refine q_getI fl_X8_32 dX8_undo_12 sf_290 ?_
    rw [hpn]
    refine r_iconst dX8_undo_15 ?_
    refine r_isub dX8_undo_16 ?_
    refine q_putI fl_X8_32 dX8_undo_17 sf_290 ?_
    refine r_iconst dX8_undo_20 ?_
    refine r_istore_n dX8_undo_21 (by decide) ?_
    dsimp only [lset]
    exact hloop 768 _ _ (by omega) (by omega) (by omega) u2_s (by omega) (fun q h1 h2 => by omega) (fun x j h1 h2 => u2_n (by omega))
  · refine r_bipush dX8_undo_7 (by decide) ?_
    refine q_iretZ dX8_undo_9 rfl ?_
    have e : aUndo a = (-2, a) := by
      unfold aUndo
      rw [if_pos (by omega)]
    rw [e]
    exact ⟨rfl, hM, fun _ _ _ => rfl⟩
