/-! what the law asks, of every right state -/
section LF
variable {a : AS} {k : Int}
theorem lf_wf (h : AbsOk a) (hk : 0 ≤ k ∧ k ≤ a.1.1.2.2 - 1) : WfP (a.1.2.2 k.toNat) ∧ WfY (yOf a k) := by
  have hp := h.1.2.2.2.2 k.toNat (by omega)
  exact ⟨hp, h.1.2.2.2.1 _ (by have := hp.1; omega)⟩
theorem lf_char (h : AbsOk a) (hk : 0 ≤ k ∧ k ≤ a.1.1.2.2 - 1) {i : Int} (hi : 0 ≤ i) : (i < (a.1.2.2 k.toNat).2.1 → aCharQ a k i = (a.1.2.2 k.toNat).2.2 i ∧ 9 ≤ aCharQ a k i ∧ aCharQ a k i ≤ 122) ∧ (¬ i < (a.1.2.2 k.toNat).2.1 → aCharQ a k i = -9) := by
  have hp := (lf_wf h hk).1
  unfold aCharQ
  rw [if_pos ⟨hk, hi⟩]
  refine ⟨fun q => ?_, fun q => if_neg q⟩
  rw [if_pos q]
  have h9 := hp.2.2 i hi q
  unfold okc at h9
  exact ⟨rfl, by omega, by omega⟩
theorem lf_lines (h : AbsOk a) (hk : 0 ≤ k ∧ k ≤ a.1.1.2.2 - 1) : aLines a k = (lyA a k a.1.1.1).1 + 1 ∧ 1 ≤ aLines a k ∧ aLines a k ≤ 81 := by
  have hw := lf_wf h hk
  have hi := layS_inv (W := a.1.1.1) (D := a.1.1.2.1) h.1.1.1 h.1.2.1 hw.2 hw.1
  have hi := hi.1
  have e : aLines a k = (lyA a k a.1.1.1).1 + 1 := if_pos hk
  rw [e]
  unfold lyA
  omega
theorem lf_holds (h : AbsOk a) (hk : 0 ≤ k ∧ k ≤ a.1.1.2.2 - 1) : aHolds a k 0 = wrN (a.1.2.2 k.toNat).2.2 (a.1.2.2 k.toNat).2.1.toNat := by
  have hw := lf_wf h hk
  unfold aHolds hdA
  rw [if_pos ⟨hk, by omega⟩, if_pos rfl]
  exact (wr_lay (W := a.1.1.1) (D := a.1.1.2.1) (y := yOf a k) hw.1).1
theorem lf_sum (h : AbsOk a) (hk : 0 ≤ k ∧ k ≤ a.1.1.2.2 - 1) : aHolds a k 0 + aHolds a k 1 + aHolds a k 2 + aHolds a k 3 = aLines a k * a.1.1.1 := by
  have e := (lf_lines h hk).1
  have e0 : aHolds a k 0 = hdA a k a.1.1.1 0 (lyA a k a.1.1.1) := if_pos ⟨hk, by omega⟩
  have e1 : aHolds a k 1 = hdA a k a.1.1.1 1 (lyA a k a.1.1.1) := if_pos ⟨hk, by omega⟩
  have e2 : aHolds a k 2 = hdA a k a.1.1.1 2 (lyA a k a.1.1.1) := if_pos ⟨hk, by omega⟩
  have e3 : aHolds a k 3 = hdA a k a.1.1.1 3 (lyA a k a.1.1.1) := if_pos ⟨hk, by omega⟩
  rw [e0, e1, e2, e3, e]
  generalize lyA a k a.1.1.1 = S
  have f0 : hdA a k a.1.1.1 0 S = flG S.2.2.2.1 0 S.2.2.1.toNat := if_pos rfl
  have f1 : hdA a k a.1.1.1 1 S = flG S.2.2.2.1 1 S.2.2.1.toNat := rfl
  have f2 : hdA a k a.1.1.1 2 S = brA a k a.1.1.1 S := rfl
  have f3 : hdA a k a.1.1.1 3 S = (S.1 + 1) * a.1.1.1 - flG S.2.2.2.1 0 S.2.2.1.toNat - flG S.2.2.2.1 1 S.2.2.1.toNat - brA a k a.1.1.1 S := rfl
  rw [f0, f1, f2, f3]
  generalize (S.1 + 1) * a.1.1.1 = z
  omega
theorem lf_lw (h : AbsOk a) (hk : 0 ≤ k ∧ k ≤ a.1.1.2.2 - 1) : aLinesWith a k a.1.1.1 = aLines a k := by
  rw [(lf_lines h hk).1]
  exact if_pos ⟨hk, h.1.1⟩
theorem lf_tabs (h : AbsOk a) (hk : 0 ≤ k ∧ k ≤ a.1.1.2.2 - 1) : (wdT (a.1.2.2 k.toNat)).2.2.1 = tbN (a.1.2.2 k.toNat).2.2 (a.1.2.2 k.toNat).2.1.toNat + 1 := (wr_lay (W := a.1.1.1) (D := a.1.1.2.1) (y := yOf a k) (lf_wf h hk).1).2
theorem lf_field (h : AbsOk a) (hk : 0 ≤ k ∧ k ≤ a.1.1.2.2 - 1) {f : Int} (hf : 0 ≤ f ∧ f ≤ tbN (a.1.2.2 k.toNat).2.2 (a.1.2.2 k.toNat).2.1.toNat) : (0 ≤ aField a k f 0 ∧ aField a k f 0 < aLines a k) ∧ (0 ≤ aField a k f 1 ∧ aField a k f 1 ≤ a.1.1.1) ∧ (-80 ≤ aField a k f 2 ∧ aField a k f 1 + aField a k f 2 ≤ a.1.1.1) ∧ (aField a k f 5 = 0 → aField a k f 4 = 0 → aField a k f 1 = aField a k f 3) ∧ (0 ≤ aField a k f 5 ↔ 0 ≤ aField a k f 3) ∧ (-9 ≤ aField a k f 3 ∧ aField a k f 3 ≤ 100) ∧ (-9 ≤ aField a k f 4 ∧ aField a k f 4 ≤ 3) ∧ (-9 ≤ aField a k f 5 ∧ aField a k f 5 ≤ 2) ∧ (1 ≤ f → aField a k (f - 1) 0 ≤ aField a k f 0) := by
  have hw := lf_wf h hk
  have ht := lf_tabs h hk
  have hF := fa_lay (W := a.1.1.1) (D := a.1.1.2.1) h.1.1 h.1.2.1 hw.2 hw.1
  have hd := hF.2.2.1 f hf.1 (by omega)
  have el := (lf_lines h hk).1
  have e : ∀ g w : Int, 0 ≤ g → g ≤ f → 0 ≤ w → w ≤ 5 → aField a k g w = (layS a.1.1.1 a.1.1.2.1 (yOf a k) (a.1.2.2 k.toNat)).2.2.2.2 g w := fun g w g1 g2 w1 w2 => by
    unfold aField
    rw [if_pos ⟨hk, g1, w1, w2⟩, if_pos (by omega)]
    rfl
  have el2 : (lyA a k a.1.1.1).1 = (layS a.1.1.1 a.1.1.2.1 (yOf a k) (a.1.2.2 k.toNat)).1 := rfl
  rw [e f 0 hf.1 (Int.le_refl _) (by omega) (by omega), e f 1 hf.1 (Int.le_refl _) (by omega) (by omega), e f 2 hf.1 (Int.le_refl _) (by omega) (by omega), e f 3 hf.1 (Int.le_refl _) (by omega) (by omega), e f 4 hf.1 (Int.le_refl _) (by omega) (by omega), e f 5 hf.1 (Int.le_refl _) (by omega) (by omega), el, el2]
  unfold FD at hd
  refine ⟨by omega, hd.2.1, hd.2.2.1, hd.2.2.2.1, hd.2.2.2.2.1, hd.2.2.2.2.2.1, hd.2.2.2.2.2.2.1, hd.2.2.2.2.2.2.2, fun q => ?_⟩
  rw [e (f - 1) 0 (by omega) (by omega) (by omega) (by omega)]
  have h9 := hF.2.2.2 (f - 1) (by omega) (by omega)
  rw [show f - 1 + 1 = f by omega] at h9
  exact h9
theorem lf_last (h : AbsOk a) (hk : 0 ≤ k ∧ k ≤ a.1.1.2.2 - 1) (h0 : 0 ≤ tbN (a.1.2.2 k.toNat).2.2 (a.1.2.2 k.toNat).2.1.toNat) : aField a k (tbN (a.1.2.2 k.toNat).2.2 (a.1.2.2 k.toNat).2.1.toNat + 1) 0 = -9 := by
  have ht := lf_tabs h hk
  unfold aField
  rw [if_pos ⟨hk, by omega, by omega⟩, if_neg (by omega)]
theorem lcG_in {m W : Int} (hW : (lyA a k W).1 + 1 ≤ m) : ∀ (n : Nat) (c : Int), c ≤ W → W < c + n → c ≤ lcG a k m n c ∧ lcG a k m n c ≤ W
  | 0, c, h1, h2 => by omega
  | n + 1, c, h1, h2 => by
    show c ≤ (if (lyA a k c).1 + 1 ≤ m then c else lcG a k m n (c + 1)) ∧ (if (lyA a k c).1 + 1 ≤ m then c else lcG a k m n (c + 1)) ≤ W
    by_cases hc : (lyA a k c).1 + 1 ≤ m
    · rw [if_pos hc]
      exact ⟨Int.le_refl _, h1⟩
    · rw [if_neg hc]
      have hne : c ≠ W := fun q => hc (by rw [q]; exact hW)
      have ih := lcG_in hW n (c + 1) (by omega) (by omega)
      omega
theorem lf_least (h : AbsOk a) (hk : 0 ≤ k ∧ k ≤ a.1.1.2.2 - 1) : -9 ≤ aLeast a k (aLines a k) ∧ aLeast a k (aLines a k) ≤ a.1.1.1 := by
  have hl := lf_lines h hk
  have hW := h.1.1
  unfold aLeast
  rw [if_pos ⟨hk, by omega⟩]
  have := lcG_in (a := a) (k := k) (m := aLines a k) (W := a.1.1.1) (by omega) 61 20 (by omega) (by omega)
  omega
theorem tbN_bd (ch : Int → Int) : ∀ n : Nat, 0 ≤ tbN ch n ∧ tbN ch n ≤ n
  | 0 => ⟨Int.le_refl _, Int.le_refl _⟩
  | n + 1 => by
    have ih := tbN_bd ch n
    show 0 ≤ tbN ch n + (if ch n = 9 then 1 else 0) ∧ tbN ch n + (if ch n = 9 then 1 else 0) ≤ ((n + 1 : Nat) : Int)
    split <;> omega
theorem wrN_bd (ch : Int → Int) : ∀ n : Nat, 0 ≤ wrN ch n ∧ wrN ch n ≤ n
  | 0 => ⟨Int.le_refl _, Int.le_refl _⟩
  | n + 1 => by
    have ih := wrN_bd ch n
    show 0 ≤ wrN ch n + (if ch n = 32 ∨ ch n = 9 then 0 else 1) ∧ wrN ch n + (if ch n = 32 ∨ ch n = 9 then 0 else 1) ≤ ((n + 1 : Nat) : Int)
    split <;> omega
theorem lnG_bd (h : AbsOk a) : ∀ n : Nat, (n : Int) ≤ a.1.1.2.2 → 0 ≤ lnG a n ∧ lnG a n ≤ 81 * n
  | 0, _ => ⟨Int.le_refl _, Int.le_refl _⟩
  | n + 1, hn => by
    have ih := lnG_bd h n (by omega)
    have hl := lf_lines (k := n) h (by omega)
    show 0 ≤ lnG a n + ((lyA a n a.1.1.1).1 + 1) ∧ lnG a n + ((lyA a n a.1.1.1).1 + 1) ≤ 81 * ((n + 1 : Nat) : Int)
    omega
theorem lnG_step (h : AbsOk a) {n : Nat} (hn : (n : Int) + 1 ≤ a.1.1.2.2) : lnG a (n + 1) = lnG a n + aLines a n := by
  rw [(lf_lines (k := n) h (by omega)).1]
  rfl
end LF
/-! the digest that the law makes of an object -/
def i6 (z : Int) : Int64 := (Int32.ofInt z).toInt64
def tS1 (a : AS) (k : Int) : Nat → Int64 → Int64
  | 0, x => x
  | n + 1, x => tS1 a k n x * 37 + i6 (aStyleQ a k n)
def tS2 (a : AS) (k : Int) : Nat → Int64 → Int64
  | 0, x => x
  | n + 1, x => tS2 a k n x * 41 + i6 (aStopQ a k n 0) + 3 * i6 (aStopQ a k n 1) + 5 * i6 (aStopQ a k n 2)
def tK (a : AS) : Nat → Int64
  | 0 => 3
  | n + 1 => tS2 a n 8 (tS1 a n 4 (tK a n * 31 + i6 (aCount a n)))
def tC1 (a : AS) (k : Int) : Nat → Int64 → Int64
  | 0, x => x
  | n + 1, x => tC1 a k n x * 43 + i6 (aCharQ a k (3 * n))
def tC (a : AS) : Nat → Int64
  | 0 => tK a 4
  | n + 1 => tC1 a n 27 (tC a n)
def talF (a : AS) : Int64 := tC a 8
theorem qs_style {a b : AS} (h : a.1 = b.1) (s w : Int) : aStyleQ a s w = aStyleQ b s w := by
  obtain ⟨x, r⟩ := a
  obtain ⟨y, t⟩ := b
  cases (show x = y from h)
  rfl
theorem qs_stop {a b : AS} (h : a.1 = b.1) (s k w : Int) : aStopQ a s k w = aStopQ b s k w := by
  obtain ⟨x, r⟩ := a
  obtain ⟨y, t⟩ := b
  cases (show x = y from h)
  rfl
theorem qs_char {a b : AS} (h : a.1 = b.1) (p i : Int) : aCharQ a p i = aCharQ b p i := by
  obtain ⟨x, r⟩ := a
  obtain ⟨y, t⟩ := b
  cases (show x = y from h)
  rfl
theorem qs_ly {a b : AS} (h : a.1 = b.1) (p W : Int) : lyA a p W = lyA b p W := by
  obtain ⟨x, r⟩ := a
  obtain ⟨y, t⟩ := b
  cases (show x = y from h)
  rfl
theorem qs_ln {a b : AS} (h : a.1 = b.1) : ∀ n : Nat, lnG a n = lnG b n
  | 0 => rfl
  | n + 1 => by
    show lnG a n + ((lyA a n a.1.1.1).1 + 1) = lnG b n + ((lyA b n b.1.1.1).1 + 1)
    rw [qs_ln h n, qs_ly h, h]
theorem qs_count {a b : AS} (h : a.1 = b.1) {w : Int} (hw : w ≤ 3) : aCount a w = aCount b w := by
  unfold aCount
  by_cases h0 : w = 0
  · rw [if_pos h0, if_pos h0, h]
  · rw [if_neg h0, if_neg h0]
    by_cases h1 : w = 1
    · rw [if_pos h1, if_pos h1, h]
    · rw [if_neg h1, if_neg h1]
      by_cases h2 : w = 2
      · rw [if_pos h2, if_pos h2, h]
      · rw [if_neg h2, if_neg h2]
        by_cases h3 : w = 3
        · rw [if_pos h3, if_pos h3, qs_ln h, h]
        · rw [if_neg h3, if_neg h3, if_neg (by omega), if_neg (by omega), if_neg (by omega), if_neg (by omega)]
theorem ts1_same {a b : AS} (h : a.1 = b.1) (k : Int) : ∀ (n : Nat) (x : Int64), tS1 a k n x = tS1 b k n x
  | 0, _ => rfl
  | n + 1, x => by
    show tS1 a k n x * 37 + i6 (aStyleQ a k n) = tS1 b k n x * 37 + i6 (aStyleQ b k n)
    rw [ts1_same h k n x, qs_style h]
theorem ts2_same {a b : AS} (h : a.1 = b.1) (k : Int) : ∀ (n : Nat) (x : Int64), tS2 a k n x = tS2 b k n x
  | 0, _ => rfl
  | n + 1, x => by
    show tS2 a k n x * 41 + i6 (aStopQ a k n 0) + 3 * i6 (aStopQ a k n 1) + 5 * i6 (aStopQ a k n 2) = tS2 b k n x * 41 + i6 (aStopQ b k n 0) + 3 * i6 (aStopQ b k n 1) + 5 * i6 (aStopQ b k n 2)
    rw [ts2_same h k n x, qs_stop h, qs_stop h, qs_stop h]
theorem tk_same {a b : AS} (h : a.1 = b.1) : ∀ n : Nat, n ≤ 4 → tK a n = tK b n
  | 0, _ => rfl
  | n + 1, hn => by
    show tS2 a n 8 (tS1 a n 4 (tK a n * 31 + i6 (aCount a n))) = tS2 b n 8 (tS1 b n 4 (tK b n * 31 + i6 (aCount b n)))
    rw [tk_same h n (by omega), qs_count h (by omega), ts1_same h, ts2_same h]
theorem tc1_same {a b : AS} (h : a.1 = b.1) (k : Int) : ∀ (n : Nat) (x : Int64), tC1 a k n x = tC1 b k n x
  | 0, _ => rfl
  | n + 1, x => by
    show tC1 a k n x * 43 + i6 (aCharQ a k (3 * n)) = tC1 b k n x * 43 + i6 (aCharQ b k (3 * n))
    rw [tc1_same h k n x, qs_char h]
theorem tc_same {a b : AS} (h : a.1 = b.1) : ∀ n : Nat, tC a n = tC b n
  | 0 => tk_same h 4 (by omega)
  | n + 1 => by
    show tC1 a n 27 (tC a n) = tC1 b n 27 (tC b n)
    rw [tc_same h n, tc1_same h]
theorem tal_same {a b : AS} (h : a.1 = b.1) : talF a = talF b := tc_same h 8
