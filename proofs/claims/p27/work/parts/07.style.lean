theorem mx_X0_135 : MxOk RX0 135 := ⟨(mU 322 (by decide +kernel) (by decide +kernel)), (mU 323 (by decide +kernel) (by decide +kernel)), (mU 26 (by decide +kernel) (by decide +kernel)), (mU 324 (by decide +kernel) (by decide +kernel))⟩
theorem mx_X0_140 : MnOk RX0 140 := ⟨(mU 325 (by decide +kernel) (by decide +kernel)), (mU 326 (by decide +kernel) (by decide +kernel)), (mU 26 (by decide +kernel) (by decide +kernel)), (mU 327 (by decide +kernel) (by decide +kernel))⟩
theorem mx_X7_212 : MxOk RX7 212 := ⟨(mU 355 (by decide +kernel) (by decide +kernel)), (mU 323 (by decide +kernel) (by decide +kernel)), (mU 26 (by decide +kernel) (by decide +kernel)), (mU 324 (by decide +kernel) (by decide +kernel))⟩
/-! small methods; the styles -/
def StyAt (R : RMem) (a a1 : Nat) : Prop := SF a 5 0 ∧ R a 2 = some a1 ∧ SF a1 100 81
def SV (f : Int → Int) : Prop := ∀ p : Int, 1 ≤ p → p ≤ 80 → 0 ≤ f p ∧ f p ≤ 20
def cntF (f : Int → Int) : Nat → Int
  | 0 => 0
  | n + 1 => cntF f n + (if f ((n : Int) + 1) = 0 then 0 else 1)
theorem cntF_bd (f : Int → Int) (n : Nat) : 0 ≤ cntF f n ∧ cntF f n ≤ n := by
  induction n with
  | zero => simp [cntF]
  | succ n ih =>
    show 0 ≤ cntF f n + (if f ((n : Int) + 1) = 0 then 0 else 1) ∧ cntF f n + (if f ((n : Int) + 1) = 0 then 0 else 1) ≤ ((n + 1 : Nat) : Int)
    split <;> omega
theorem cntF_step (f : Int → Int) {p : Int} (h : 1 ≤ p) : cntF f p.toNat = cntF f (p - 1).toNat + (if f p = 0 then 0 else 1) := by
  obtain ⟨n, rfl⟩ : ∃ n : Nat, p = n + 1 := ⟨(p - 1).toNat, by omega⟩
  rw [show ((n : Int) + 1).toNat = n + 1 by omega, show ((n : Int) + 1 - 1).toNat = n by omega]
  rfl
theorem cntF_mono (f : Int → Int) {m n : Nat} (h : m ≤ n) : cntF f m ≤ cntF f n := by
  induction n with
  | zero => rw [show m = 0 by omega]; exact Int.le_refl _
  | succ n ih =>
    by_cases hm : m = n + 1
    · rw [hm]; exact Int.le_refl _
    · have h1 := ih (by omega)
      show cntF f m ≤ cntF f n + (if f ((n : Int) + 1) = 0 then 0 else 1)
      split <;> omega
def StpF (f : Int → Int) (p : Int) : Prop := 1 ≤ p ∧ p ≤ 80 ∧ f p ≠ 0
def TabF (f : Int → Int) (p : Int) : Prop := 1 ≤ p ∧ p ≤ 80 ∧ f p ≠ 0 ∧ f p ≤ 16
def PosR (f : Int → Int) (k z : Int) : Prop := (StpF f z ∧ cntF f (z - 1).toNat = k) ∨ (z = -9 ∧ ∀ p : Int, StpF f p → cntF f (p - 1).toNat ≠ k)
def LastR (f : Int → Int) (z : Int) : Prop := (TabF f z ∨ z = 0) ∧ ∀ p : Int, TabF f p → p ≤ z
def BehR (f : Int → Int) (c z : Int) : Prop := (TabF f z ∧ c < z ∧ ∀ p : Int, TabF f p → c < p → z ≤ p) ∨ (z = -9 ∧ ∀ p : Int, TabF f p → p ≤ c)
set_option maxHeartbeats 4000000 in
set_option maxRecDepth 100000 in
theorem c_isWithin (I : Mem) (R : RMem) (v lo hi : Int) (h1 : -2147483648 ≤ v ∧ v ≤ 2147483647) (h2 : -2147483648 ≤ lo ∧ lo ≤ 2147483647) (h3 : -2147483648 ≤ hi ∧ hi ≤ 2147483647) : CC 1 0 0 yX7_isWithin cX7_isWithin 3 (some .boolean) [.inl (v), .inl (lo), .inl (hi)] (290, ShF, I, R) (PF (b2i (lo ≤ v ∧ v ≤ hi)) I R) := by
  refine CC_of (own := RX7) (ini := false) (by decide +kernel) rfl (fun h => absurd h (by decide)) (Nat.le_of_ble_eq_true rfl) ?_
  show WW cX7_isWithin RX7 3 (some .boolean) false 1 0 0 (PF (b2i (lo ≤ v ∧ v ≤ hi)) I R) 0 0 0 [some (.inl (v)), some (.inl (lo)), some (.inl (hi))] [] (290, ShF, I, R)
  refine r_iload_n dX7_isWithin_0 rfl ?_
  refine r_iload_n dX7_isWithin_1 rfl ?_
  refine r_icmplt (tgt := 14) dX7_isWithin_2 (by decide) (by omega) (by omega) (fun h2 => ?_) (fun h2 => ?_)
  · refine r_iconst dX7_isWithin_14 ?_
    refine q_zretF dX7_isWithin_15 rfl (by decide) ?_
    first | exact b2i_t (by omega) | exact b2i_f (by omega)
  · refine r_iload_n dX7_isWithin_5 rfl ?_
    refine r_iload_n dX7_isWithin_6 rfl ?_
    refine r_icmpgt (tgt := 14) dX7_isWithin_7 (by decide) (by omega) (by omega) (fun h7 => ?_) (fun h7 => ?_)
    · refine r_iconst dX7_isWithin_14 ?_
      refine q_zretF dX7_isWithin_15 rfl (by decide) ?_
      first | exact b2i_t (by omega) | exact b2i_f (by omega)
    · refine r_iconst dX7_isWithin_10 ?_
      refine r_goto (tgt := 15) dX7_isWithin_11 (by decide) ?_
      refine q_zretF dX7_isWithin_15 rfl (by decide) ?_
      first | exact b2i_t (by omega) | exact b2i_f (by omega)
set_option maxHeartbeats 4000000 in
set_option maxRecDepth 100000 in
theorem c_hasStop (I : Mem) (R : RMem) {a a1 : Nat} (hs : StyAt R a a1) (hf : SV (I a1)) (p : Int) (hp : -2147483648 ≤ p ∧ p ≤ 2147483647) : CC 1 0 0 yX5_hasStop cX5_hasStop 2 (some .boolean) [.inr (some (a)), .inl (p)] (290, ShF, I, R) (PF (b2i (1 ≤ p ∧ p ≤ 80 ∧ I a1 p ≠ 0)) I R) := by
  refine CC_of (own := RX5) (ini := false) (by decide +kernel) rfl (fun h => absurd h (by decide)) (Nat.le_of_ble_eq_true rfl) ?_
  show WW cX5_hasStop RX5 2 (some .boolean) false 1 0 0 (PF (b2i (1 ≤ p ∧ p ≤ 80 ∧ I a1 p ≠ 0)) I R) 0 0 0 [some (.inr (some (a))), some (.inl (p))] [] (290, ShF, I, R)
  refine r_iload_n dX5_hasStop_0 rfl ?_
  refine r_iconst dX5_hasStop_1 ?_
  refine r_icmplt (tgt := 24) dX5_hasStop_2 (by decide) (by omega) (by omega) (fun h2 => ?_) (fun h2 => ?_)
  · refine r_iconst dX5_hasStop_24 ?_
    refine q_zretF dX5_hasStop_25 rfl (by decide) ?_
    first | exact b2i_t (by omega) | exact b2i_f (by omega)
  · refine r_iload_n dX5_hasStop_5 rfl ?_
    refine r_bipush dX5_hasStop_6 (by decide) ?_
    refine r_icmpgt (tgt := 24) dX5_hasStop_8 (by decide) (by omega) (by omega) (fun h8 => ?_) (fun h8 => ?_)
    · refine r_iconst dX5_hasStop_24 ?_
      refine q_zretF dX5_hasStop_25 rfl (by decide) ?_
      first | exact b2i_t (by omega) | exact b2i_f (by omega)
    · refine r_aload_n dX5_hasStop_11 rfl ?_
      refine q_getR fl_X5_15 dX5_hasStop_12 hs.1 hs.2.1 ?_
      refine r_iload_n dX5_hasStop_15 rfl ?_
      refine q_iald dX5_hasStop_16 hs.2.2 (by omega) ?_
      have hfp := hf p (by omega) (by omega)
      refine r_ifeq (tgt := 24) dX5_hasStop_17 (by decide) (by omega) (fun h17 => ?_) (fun h17 => ?_)
      · refine r_iconst dX5_hasStop_24 ?_
        refine q_zretF dX5_hasStop_25 rfl (by decide) ?_
        first | exact b2i_t (by omega) | exact b2i_f (by omega)
      · refine r_iconst dX5_hasStop_20 ?_
        refine r_goto (tgt := 25) dX5_hasStop_21 (by decide) ?_
        refine q_zretF dX5_hasStop_25 rfl (by decide) ?_
        first | exact b2i_t (by omega) | exact b2i_f (by omega)
set_option maxHeartbeats 4000000 in
set_option maxRecDepth 100000 in
theorem c_kindAt (I : Mem) (R : RMem) {a a1 : Nat} (hs : StyAt R a a1) (hf : SV (I a1)) (p : Int) (hp : -2147483648 ≤ p ∧ p ≤ 2147483647) : CC 2 0 0 yX5_kindAt cX5_kindAt 2 (some .int) [.inr (some (a)), .inl (p)] (290, ShF, I, R) (PF (if 1 ≤ p ∧ p ≤ 80 ∧ I a1 p ≠ 0 then ((I a1 p - 1) / 4) else -9) I R) := by
  refine CC_of (own := RX5) (ini := false) (by decide +kernel) rfl (fun h => absurd h (by decide)) (Nat.le_of_ble_eq_true rfl) ?_
  show WW cX5_kindAt RX5 2 (some .int) false 2 0 0 (PF (if 1 ≤ p ∧ p ≤ 80 ∧ I a1 p ≠ 0 then ((I a1 p - 1) / 4) else -9) I R) 0 0 0 [some (.inr (some (a))), some (.inl (p))] [] (290, ShF, I, R)
  refine r_aload_n dX5_kindAt_0 rfl ?_
  refine r_iload_n dX5_kindAt_1 rfl ?_
  refine q_callVF lk_X5_19 dX5_kindAt_2 (c_hasStop I R hs hf p hp) (by decide) hs.1 rfl rfl (Nat.le_of_ble_eq_true rfl) (by decide) ?_
  refine q_ifeqB (tgt := 21) dX5_kindAt_5 (by decide) (fun h5 => ?_) (fun h5 => ?_)
  · refine r_bipush dX5_kindAt_21 (by decide) ?_
    refine q_iretF dX5_kindAt_23 rfl ?_
    first | exact (if_pos (by omega)).symm | exact (if_neg (by omega)).symm
  · refine r_aload_n dX5_kindAt_8 rfl ?_
    refine q_getR fl_X5_15 dX5_kindAt_9 hs.1 hs.2.1 ?_
    refine r_iload_n dX5_kindAt_12 rfl ?_
    refine q_iald dX5_kindAt_13 hs.2.2 (by omega) ?_
    refine r_iconst dX5_kindAt_14 ?_
    refine r_isub dX5_kindAt_15 ?_
    refine r_iconst dX5_kindAt_16 ?_
    have hfp := hf p (by omega) (by omega)
    refine r_idiv dX5_kindAt_17 (by omega) (by omega) ?_
    refine r_goto (tgt := 23) dX5_kindAt_18 (by decide) ?_
    refine q_iretF dX5_kindAt_23 rfl ?_
    first | exact (if_pos (by omega)).symm | exact (if_neg (by omega)).symm
set_option maxHeartbeats 4000000 in
set_option maxRecDepth 100000 in
theorem c_leaderAt (I : Mem) (R : RMem) {a a1 : Nat} (hs : StyAt R a a1) (hf : SV (I a1)) (p : Int) (hp : -2147483648 ≤ p ∧ p ≤ 2147483647) : CC 2 0 0 yX5_leaderAt cX5_leaderAt 2 (some .int) [.inr (some (a)), .inl (p)] (290, ShF, I, R) (PF (if 1 ≤ p ∧ p ≤ 80 ∧ I a1 p ≠ 0 then ((I a1 p - 1) % 4) else -9) I R) := by
  refine CC_of (own := RX5) (ini := false) (by decide +kernel) rfl (fun h => absurd h (by decide)) (Nat.le_of_ble_eq_true rfl) ?_
  show WW cX5_leaderAt RX5 2 (some .int) false 2 0 0 (PF (if 1 ≤ p ∧ p ≤ 80 ∧ I a1 p ≠ 0 then ((I a1 p - 1) % 4) else -9) I R) 0 0 0 [some (.inr (some (a))), some (.inl (p))] [] (290, ShF, I, R)
  refine r_aload_n dX5_leaderAt_0 rfl ?_
  refine r_iload_n dX5_leaderAt_1 rfl ?_
  refine q_callVF lk_X5_19 dX5_leaderAt_2 (c_hasStop I R hs hf p hp) (by decide) hs.1 rfl rfl (Nat.le_of_ble_eq_true rfl) (by decide) ?_
  refine q_ifeqB (tgt := 21) dX5_leaderAt_5 (by decide) (fun h5 => ?_) (fun h5 => ?_)
  · refine r_bipush dX5_leaderAt_21 (by decide) ?_
    refine q_iretF dX5_leaderAt_23 rfl ?_
    first | exact (if_pos (by omega)).symm | exact (if_neg (by omega)).symm
  · refine r_aload_n dX5_leaderAt_8 rfl ?_
    refine q_getR fl_X5_15 dX5_leaderAt_9 hs.1 hs.2.1 ?_
    refine r_iload_n dX5_leaderAt_12 rfl ?_
    refine q_iald dX5_leaderAt_13 hs.2.2 (by omega) ?_
    refine r_iconst dX5_leaderAt_14 ?_
    refine r_isub dX5_leaderAt_15 ?_
    refine r_iconst dX5_leaderAt_16 ?_
    have hfp := hf p (by omega) (by omega)
    refine r_irem dX5_leaderAt_17 (by omega) (by omega) ?_
    refine r_goto (tgt := 23) dX5_leaderAt_18 (by decide) ?_
    refine q_iretF dX5_leaderAt_23 rfl ?_
    first | exact (if_pos (by omega)).symm | exact (if_neg (by omega)).symm
set_option maxHeartbeats 4000000 in
set_option maxRecDepth 100000 in
theorem c_hasTab (I : Mem) (R : RMem) {a a1 : Nat} (hs : StyAt R a a1) (hf : SV (I a1)) (p : Int) (hp : -2147483648 ≤ p ∧ p ≤ 2147483647) : CC 2 0 0 yX5_hasTab cX5_hasTab 2 (some .boolean) [.inr (some (a)), .inl (p)] (290, ShF, I, R) (PF (b2i (1 ≤ p ∧ p ≤ 80 ∧ I a1 p ≠ 0 ∧ I a1 p ≤ 16)) I R) := by
  refine CC_of (own := RX5) (ini := false) (by decide +kernel) rfl (fun h => absurd h (by decide)) (Nat.le_of_ble_eq_true rfl) ?_
  show WW cX5_hasTab RX5 2 (some .boolean) false 2 0 0 (PF (b2i (1 ≤ p ∧ p ≤ 80 ∧ I a1 p ≠ 0 ∧ I a1 p ≤ 16)) I R) 0 0 0 [some (.inr (some (a))), some (.inl (p))] [] (290, ShF, I, R)
  refine r_aload_n dX5_hasTab_0 rfl ?_
  refine r_iload_n dX5_hasTab_1 rfl ?_
  refine q_callVF lk_X5_19 dX5_hasTab_2 (c_hasStop I R hs hf p hp) (by decide) hs.1 rfl rfl (Nat.le_of_ble_eq_true rfl) (by decide) ?_
  refine q_ifeqB (tgt := 23) dX5_hasTab_5 (by decide) (fun h5 => ?_) (fun h5 => ?_)
  · refine r_iconst dX5_hasTab_23 ?_
    refine q_zretF dX5_hasTab_24 rfl (by decide) ?_
    first | exact b2i_t (by omega) | exact b2i_f (by omega)
  · refine r_aload_n dX5_hasTab_8 rfl ?_
    refine q_getR fl_X5_15 dX5_hasTab_9 hs.1 hs.2.1 ?_
    refine r_iload_n dX5_hasTab_12 rfl ?_
    refine q_iald dX5_hasTab_13 hs.2.2 (by omega) ?_
    have hfp := hf p (by omega) (by omega)
    refine r_bipush dX5_hasTab_14 (by decide) ?_
    refine r_icmpgt (tgt := 23) dX5_hasTab_16 (by decide) (by omega) (by omega) (fun h16 => ?_) (fun h16 => ?_)
    · refine r_iconst dX5_hasTab_23 ?_
      refine q_zretF dX5_hasTab_24 rfl (by decide) ?_
      first | exact b2i_t (by omega) | exact b2i_f (by omega)
    · refine r_iconst dX5_hasTab_19 ?_
      refine r_goto (tgt := 24) dX5_hasTab_20 (by decide) ?_
      refine q_zretF dX5_hasTab_24 rfl (by decide) ?_
      first | exact b2i_t (by omega) | exact b2i_f (by omega)
set_option maxHeartbeats 4000000 in
set_option maxRecDepth 100000 in
theorem c_stopsBefore (I : Mem) (R : RMem) {a a1 : Nat} (hs : StyAt R a a1) (hf : SV (I a1)) (pos : Int) (hp : -2147483648 ≤ pos ∧ pos ≤ 2147483647) : CC 1 0 0 yX5_stopsBefore cX5_stopsBefore 4 (some .int) [.inr (some (a)), .inl (pos)] (290, ShF, I, R) (PF (cntF (I a1) (if pos - 1 < 80 then pos - 1 else 80).toNat) I R) := by
  have hloop : ∀ (n : Nat) (stops p : Int), 81 < p + n → p ≤ 81 → 1 ≤ p → stops = cntF (I a1) (p - 1).toNat → (p = 1 ∨ p ≤ pos) → WW cX5_stopsBefore RX5 4 (some .int) false 1 0 0 (PF (cntF (I a1) (if pos - 1 < 80 then pos - 1 else 80).toNat) I R) 0 0 4 [some (.inr (some (a))), some (.inl (pos)), some (.inl (stops)), some (.inl (p))] [] (290, ShF, I, R) := by
    intro n
    induction n with
    | zero => intros; exfalso; omega
    | succ n ih =>
      intro stops p g1 g2 g3 g4 g5
      refine r_iload_n dX5_stopsBefore_4 rfl ?_
      refine r_bipush dX5_stopsBefore_5 (by decide) ?_
      refine r_icmpgt (tgt := 33) dX5_stopsBefore_7 (by decide) (by omega) (by omega) (fun h7 => ?_) (fun h7 => ?_)
      · refine r_iload_n dX5_stopsBefore_33 rfl ?_
        refine q_iretF dX5_stopsBefore_34 rfl ?_
        rw [g4]
        congr 1
        split <;> omega
      · refine r_iload_n dX5_stopsBefore_10 rfl ?_
        refine r_iload_n dX5_stopsBefore_11 rfl ?_
        refine r_icmpge (tgt := 33) dX5_stopsBefore_12 (by decide) (by omega) (by omega) (fun h12 => ?_) (fun h12 => ?_)
        · refine r_iload_n dX5_stopsBefore_33 rfl ?_
          refine q_iretF dX5_stopsBefore_34 rfl ?_
          rw [g4]
          congr 1
          split <;> omega
        · refine r_aload_n dX5_stopsBefore_15 rfl ?_
          refine q_getR fl_X5_15 dX5_stopsBefore_16 hs.1 hs.2.1 ?_
          refine r_iload_n dX5_stopsBefore_19 rfl ?_
          refine q_iald dX5_stopsBefore_20 hs.2.2 (by omega) ?_
          have hfp := hf p (by omega) (by omega)
          have hc := cntF_step (I a1) (p := p) (by omega)
          refine r_ifeq (tgt := 27) dX5_stopsBefore_21 (by decide) (by omega) (fun h21 => ?_) (fun h21 => ?_)
          · rw [if_pos h21] at hc
            refine r_iinc dX5_stopsBefore_27 rfl (by decide) ?_
            dsimp only [lset]
            refine r_goto (tgt := 4) dX5_stopsBefore_30 (by decide) ?_
            exact ih _ _ (by omega) (by omega) (by omega) (by rw [show p + 1 - 1 = p by omega, hc]; omega) (by omega)
          · rw [if_neg h21] at hc
            refine r_iinc dX5_stopsBefore_24 rfl (by decide) ?_
            dsimp only [lset]
            refine r_iinc dX5_stopsBefore_27 rfl (by decide) ?_
            dsimp only [lset]
            refine r_goto (tgt := 4) dX5_stopsBefore_30 (by decide) ?_
            exact ih _ _ (by omega) (by omega) (by omega) (by rw [show p + 1 - 1 = p by omega, hc]; omega) (by omega)
  refine CC_of (own := RX5) (ini := false) (by decide +kernel) rfl (fun h => absurd h (by decide)) (Nat.le_of_ble_eq_true rfl) ?_
  show WW cX5_stopsBefore RX5 4 (some .int) false 1 0 0 (PF (cntF (I a1) (if pos - 1 < 80 then pos - 1 else 80).toNat) I R) 0 0 0 [some (.inr (some (a))), some (.inl (pos)), none, none] [] (290, ShF, I, R)
  refine r_iconst dX5_stopsBefore_0 ?_
  refine r_istore_n dX5_stopsBefore_1 (by decide) ?_
  dsimp only [lset]
  refine r_iconst dX5_stopsBefore_2 ?_
  refine r_istore_n dX5_stopsBefore_3 (by decide) ?_
  dsimp only [lset]
  exact hloop 81 _ _ (by omega) (by omega) (by omega) rfl (by omega)
set_option maxHeartbeats 4000000 in
set_option maxRecDepth 100000 in
theorem c_positionOf (I : Mem) (R : RMem) {a a1 : Nat} (hs : StyAt R a a1) (hf : SV (I a1)) (k : Int) (hp : -2147483648 ≤ k ∧ k ≤ 2147483647) : CC 1 0 0 yX5_positionOf cX5_positionOf 4 (some .int) [.inr (some (a)), .inl (k)] (290, ShF, I, R) (PY (PosR (I a1) k) I R) := by
  have hloop : ∀ (n : Nat) (stops p : Int), 81 < p + n → p ≤ 81 → 1 ≤ p → stops = cntF (I a1) (p - 1).toNat → (∀ q : Int, q < p → StpF (I a1) q → cntF (I a1) (q - 1).toNat ≠ k) → WW cX5_positionOf RX5 4 (some .int) false 1 0 0 (PY (PosR (I a1) k) I R) 0 0 4 [some (.inr (some (a))), some (.inl (k)), some (.inl (stops)), some (.inl (p))] [] (290, ShF, I, R) := by
    intro n
    induction n with
    | zero => intros; exfalso; omega
    | succ n ih =>
      intro stops p g1 g2 g3 g4 g5
      refine r_iload_n dX5_positionOf_4 rfl ?_
      refine r_bipush dX5_positionOf_5 (by decide) ?_
      refine r_icmpgt (tgt := 35) dX5_positionOf_7 (by decide) (by omega) (by omega) (fun h7 => ?_) (fun h7 => ?_)
      · refine r_bipush dX5_positionOf_35 (by decide) ?_
        refine q_iretY dX5_positionOf_37 rfl ?_
        exact Or.inr ⟨rfl, fun q hq => g5 q (by have := hq.2.1; omega) hq⟩
      · refine r_aload_n dX5_positionOf_10 rfl ?_
        refine q_getR fl_X5_15 dX5_positionOf_11 hs.1 hs.2.1 ?_
        refine r_iload_n dX5_positionOf_14 rfl ?_
        refine q_iald dX5_positionOf_15 hs.2.2 (by omega) ?_
        have hfp := hf p (by omega) (by omega)
        have hc := cntF_step (I a1) (p := p) (by omega)
        have hb := cntF_bd (I a1) (p - 1).toNat
        refine r_ifeq (tgt := 29) dX5_positionOf_16 (by decide) (by omega) (fun h16 => ?_) (fun h16 => ?_)
        · rw [if_pos h16] at hc
          refine r_iinc dX5_positionOf_29 rfl (by decide) ?_
          dsimp only [lset]
          refine r_goto (tgt := 4) dX5_positionOf_32 (by decide) ?_
          exact ih _ _ (by omega) (by omega) (by omega) (by rw [show p + 1 - 1 = p by omega, hc]; omega) (fun q hq hq2 => by
            by_cases e : q = p
            · first | exact absurd h16 (e ▸ hq2.2.2) | (rw [e]; omega)
            · exact g5 q (by omega) hq2)
        · rw [if_neg h16] at hc
          refine r_iload_n dX5_positionOf_19 rfl ?_
          refine r_iload_n dX5_positionOf_20 rfl ?_
          refine r_icmpne (tgt := 26) dX5_positionOf_21 (by decide) (by omega) (by omega) (fun h21 => ?_) (fun h21 => ?_)
          · refine r_iinc dX5_positionOf_26 rfl (by decide) ?_
            dsimp only [lset]
            refine r_iinc dX5_positionOf_29 rfl (by decide) ?_
            dsimp only [lset]
            refine r_goto (tgt := 4) dX5_positionOf_32 (by decide) ?_
            exact ih _ _ (by omega) (by omega) (by omega) (by rw [show p + 1 - 1 = p by omega, hc]; omega) (fun q hq hq2 => by
              by_cases e : q = p
              · first | exact absurd h16 (e ▸ hq2.2.2) | (rw [e]; omega)
              · exact g5 q (by omega) hq2)
          · refine r_iload_n dX5_positionOf_24 rfl ?_
            refine q_iretY dX5_positionOf_25 rfl ?_
            exact Or.inl ⟨⟨by omega, by omega, h16⟩, by omega⟩
  refine CC_of (own := RX5) (ini := false) (by decide +kernel) rfl (fun h => absurd h (by decide)) (Nat.le_of_ble_eq_true rfl) ?_
  show WW cX5_positionOf RX5 4 (some .int) false 1 0 0 (PY (PosR (I a1) k) I R) 0 0 0 [some (.inr (some (a))), some (.inl (k)), none, none] [] (290, ShF, I, R)
  refine r_iconst dX5_positionOf_0 ?_
  refine r_istore_n dX5_positionOf_1 (by decide) ?_
  dsimp only [lset]
  refine r_iconst dX5_positionOf_2 ?_
  refine r_istore_n dX5_positionOf_3 (by decide) ?_
  dsimp only [lset]
  exact hloop 81 _ _ (by omega) (by omega) (by omega) rfl (fun q hq hq2 => by have := hq2.1; omega)
set_option maxHeartbeats 4000000 in
set_option maxRecDepth 100000 in
theorem c_lastTab (I : Mem) (R : RMem) {a a1 : Nat} (hs : StyAt R a a1) (hf : SV (I a1))  : CC 3 0 0 yX5_lastTab cX5_lastTab 2 (some .int) [.inr (some (a))] (290, ShF, I, R) (PY (LastR (I a1)) I R) := by
  have hloop : ∀ (n : Nat) (p : Int), p < n → p ≤ 80 → 0 ≤ p → (∀ q : Int, TabF (I a1) q → q ≤ p) → WW cX5_lastTab RX5 2 (some .int) false 3 0 0 (PY (LastR (I a1)) I R) 0 0 3 [some (.inr (some (a))), some (.inl (p))] [] (290, ShF, I, R) := by
    intro n
    induction n with
    | zero => intros; exfalso; omega
    | succ n ih =>
      intro p g1 g2 g3 g4
      refine r_iload_n dX5_lastTab_3 rfl ?_
      refine r_ifle (tgt := 23) dX5_lastTab_4 (by decide) (by omega) (fun h4 => ?_) (fun h4 => ?_)
      · refine r_iconst dX5_lastTab_23 ?_
        refine q_iretY dX5_lastTab_24 rfl ?_
        exact ⟨Or.inr rfl, fun q hq => by have := g4 q hq; omega⟩
      · refine r_aload_n dX5_lastTab_7 rfl ?_
        refine r_iload_n dX5_lastTab_8 rfl ?_
        refine q_callVF lk_X5_27 dX5_lastTab_9 (c_hasTab I R hs hf p (by omega)) (by decide) hs.1 rfl rfl (Nat.le_of_ble_eq_true rfl) (by decide) ?_
        refine q_ifeqB (tgt := 17) dX5_lastTab_12 (by decide) (fun h12 => ?_) (fun h12 => ?_)
        · refine r_iinc dX5_lastTab_17 rfl (by decide) ?_
          dsimp only [lset]
          refine r_goto (tgt := 3) dX5_lastTab_20 (by decide) ?_
          exact ih _ (by omega) (by omega) (by omega) (fun q hq => by
            have h9 := g4 q hq
            by_cases e : q = p
            · exact absurd (e ▸ ⟨hq.1, hq.2.1, hq.2.2.1, hq.2.2.2⟩) h12
            · omega)
        · refine r_iload_n dX5_lastTab_15 rfl ?_
          refine q_iretY dX5_lastTab_16 rfl ?_
          exact ⟨Or.inl ⟨h12.1, h12.2.1, h12.2.2.1, h12.2.2.2⟩, g4⟩
  refine CC_of (own := RX5) (ini := false) (by decide +kernel) rfl (fun h => absurd h (by decide)) (Nat.le_of_ble_eq_true rfl) ?_
  show WW cX5_lastTab RX5 2 (some .int) false 3 0 0 (PY (LastR (I a1)) I R) 0 0 0 [some (.inr (some (a))), none] [] (290, ShF, I, R)
  refine r_bipush dX5_lastTab_0 (by decide) ?_
  refine r_istore_n dX5_lastTab_2 (by decide) ?_
  dsimp only [lset]
  exact hloop 81 _ (by omega) (by omega) (by omega) (fun q hq => hq.2.1)
set_option maxHeartbeats 4000000 in
set_option maxRecDepth 100000 in
theorem c_tabBehind (I : Mem) (R : RMem) {a a1 : Nat} (hs : StyAt R a a1) (hf : SV (I a1)) (c : Int) (hc : 0 ≤ c ∧ c ≤ 100000) : CC 3 0 0 yX5_tabBehind cX5_tabBehind 3 (some .int) [.inr (some (a)), .inl (c)] (290, ShF, I, R) (PY (BehR (I a1) c) I R) := by
  have hloop : ∀ (n : Nat) (p : Int), 100082 < p + n → c < p → p ≤ 100001 → (∀ q : Int, TabF (I a1) q → c < q → p ≤ q) → WW cX5_tabBehind RX5 3 (some .int) false 3 0 0 (PY (BehR (I a1) c) I R) 0 0 4 [some (.inr (some (a))), some (.inl (c)), some (.inl (p))] [] (290, ShF, I, R) := by
    intro n
    induction n with
    | zero => intros; exfalso; omega
    | succ n ih =>
      intro p g1 g2 g3 g4
      refine r_iload_n dX5_tabBehind_4 rfl ?_
      refine r_bipush dX5_tabBehind_5 (by decide) ?_
      refine r_icmpgt (tgt := 26) dX5_tabBehind_7 (by decide) (by omega) (by omega) (fun h7 => ?_) (fun h7 => ?_)
      · refine r_bipush dX5_tabBehind_26 (by decide) ?_
        refine q_iretY dX5_tabBehind_28 rfl ?_
        exact Or.inr ⟨rfl, fun q hq => by
          have h1 := hq.2.1
          by_cases e : c < q
          · have := g4 q hq e
            omega
          · omega⟩
      · refine r_aload_n dX5_tabBehind_10 rfl ?_
        refine r_iload_n dX5_tabBehind_11 rfl ?_
        refine q_callVF lk_X5_27 dX5_tabBehind_12 (c_hasTab I R hs hf p (by omega)) (by decide) hs.1 rfl rfl (Nat.le_of_ble_eq_true rfl) (by decide) ?_
        refine q_ifeqB (tgt := 20) dX5_tabBehind_15 (by decide) (fun h15 => ?_) (fun h15 => ?_)
        · refine r_iinc dX5_tabBehind_20 rfl (by decide) ?_
          dsimp only [lset]
          refine r_goto (tgt := 4) dX5_tabBehind_23 (by decide) ?_
          exact ih _ (by omega) (by omega) (by omega) (fun q hq h => by
            have h9 := g4 q hq h
            by_cases e : q = p
            · exact absurd (e ▸ ⟨hq.1, hq.2.1, hq.2.2.1, hq.2.2.2⟩) h15
            · omega)
        · refine r_iload_n dX5_tabBehind_18 rfl ?_
          refine q_iretY dX5_tabBehind_19 rfl ?_
          exact Or.inl ⟨⟨h15.1, h15.2.1, h15.2.2.1, h15.2.2.2⟩, by omega, g4⟩
  refine CC_of (own := RX5) (ini := false) (by decide +kernel) rfl (fun h => absurd h (by decide)) (Nat.le_of_ble_eq_true rfl) ?_
  show WW cX5_tabBehind RX5 3 (some .int) false 3 0 0 (PY (BehR (I a1) c) I R) 0 0 0 [some (.inr (some (a))), some (.inl (c)), none] [] (290, ShF, I, R)
  refine r_iload_n dX5_tabBehind_0 rfl ?_
  refine r_iconst dX5_tabBehind_1 ?_
  refine r_iadd dX5_tabBehind_2 ?_
  refine r_istore_n dX5_tabBehind_3 (by decide) ?_
  dsimp only [lset]
  exact hloop 100082 _ (by omega) (by omega) (by omega) (fun q hq h => by omega)
