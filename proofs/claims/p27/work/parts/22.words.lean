/-! words: what they are, and the class's -/
theorem u2_row {α : Type} (f : Nat → Int → α) (a : Nat) (j : Int) (v : α) : u2 f a j v a = fun q => if q = j then v else f a q := by
  funext q
  rw [u2_at]
  by_cases h : q = j
  · rw [if_pos ⟨rfl, h⟩, if_pos h]
  · rw [if_neg (fun z => h z.2), if_neg h]
theorem u2_rowU (f : Mem) (a : Nat) (j v : Int) : u2 f a j v a = upF (f a) j v := u2_row f a j v
theorem u2_rown {α : Type} (f : Nat → Int → α) {a x : Nat} (j : Int) (v : α) (h : x ≠ a) : u2 f a j v x = f x := funext fun q => u2_n (Or.inl h)
/-- before word w there are only spaces from k on -/
def Gp (st ch : Int → Int) (to b k w : Int) : Prop := (w < b → k ≤ st w ∧ ∀ x : Int, k ≤ x → x < st w → ch x = 32) ∧ (w = b → k ≤ to ∧ ∀ x : Int, k ≤ x → x < to → ch x = 32)
def Wk (st ln ch : Int → Int) (to b w : Int) : Prop := (1 ≤ ln w ∧ 0 ≤ st w ∧ st w + ln w ≤ to) ∧ (∀ x : Int, st w ≤ x → x < st w + ln w → ch x ≠ 32) ∧ (w + 1 < b → st w + ln w < st (w + 1)) ∧ Gp st ch to b (st w + ln w) (w + 1)
/-- the words a .. b-1 are those of the characters fr .. to-1 -/
def Fk (st ln ch : Int → Int) (fr to a b : Int) : Prop := a ≤ b ∧ 0 ≤ fr ∧ Gp st ch to b fr a ∧ ∀ w : Int, a ≤ w → w < b → Wk st ln ch to b w
theorem Fk.congr {st ln ch st1 ln1 : Int → Int} {fr to a b : Int} (h : Fk st ln ch fr to a b) (h1 : ∀ w : Int, a ≤ w → w < b → st1 w = st w ∧ ln1 w = ln w) : Fk st1 ln1 ch fr to a b := by
  refine ⟨h.1, h.2.1, ⟨fun q => ?_, h.2.2.1.2⟩, fun w w1 w2 => ?_⟩
  · rw [(h1 a (by omega) q).1]; exact h.2.2.1.1 q
  · have hw := h.2.2.2 w w1 w2
    unfold Wk at hw ⊢
    rw [(h1 w w1 w2).1, (h1 w w1 w2).2]
    refine ⟨hw.1, hw.2.1, fun q => ?_, ⟨fun q => ?_, hw.2.2.2.2⟩⟩
    · rw [(h1 (w + 1) (by omega) q).1]; exact hw.2.2.1 q
    · rw [(h1 (w + 1) (by omega) q).1]; exact hw.2.2.2.1 q
theorem Fk.bd {st ln ch : Int → Int} {fr to a b : Int} (h : Fk st ln ch fr to a b) : fr ≤ to := by
  by_cases hab : a = b
  · exact (h.2.2.1.2 hab).1
  · have h1 := (h.2.2.1.1 (by have := h.1; omega)).1
    have h2 := (h.2.2.2 a (Int.le_refl _) (by have := h.1; omega)).1
    omega
theorem Fk.space {st ln ch : Int → Int} {fr i a b : Int} (h : Fk st ln ch fr i a b) (hc : ch i = 32) : Fk st ln ch fr (i + 1) a b := by
  have hg : ∀ k w : Int, Gp st ch i b k w → Gp st ch (i + 1) b k w := fun k w q => ⟨q.1, fun e => ⟨by have := (q.2 e).1; omega, fun x x1 x2 => by
    by_cases hx : x = i
    · rw [hx]; exact hc
    · exact (q.2 e).2 x x1 (by omega)⟩⟩
  exact ⟨h.1, h.2.1, hg _ _ h.2.2.1, fun w w1 w2 => by
    have hw := h.2.2.2 w w1 w2
    exact ⟨⟨hw.1.1, hw.1.2.1, by have := hw.1.2.2; omega⟩, hw.2.1, hw.2.2.1, hg _ _ hw.2.2.2⟩⟩
theorem Fk.grow {st ln ch : Int → Int} {fr i a b : Int} (h : Fk st ln ch fr i a b) (hab : a < b) (he : st (b - 1) + ln (b - 1) = i) (hc : ch i ≠ 32) : Fk st (upF ln (b - 1) (ln (b - 1) + 1)) ch fr (i + 1) a b := by
  have hg : ∀ k w : Int, w < b → Gp st ch i b k w → Gp st ch (i + 1) b k w := fun k w hw q => ⟨q.1, fun e => by omega⟩
  refine ⟨h.1, h.2.1, hg _ _ hab h.2.2.1, fun w w1 w2 => ?_⟩
  have hw := h.2.2.2 w w1 w2
  by_cases hl : w = b - 1
  · have e : upF ln (b - 1) (ln (b - 1) + 1) w = ln w + 1 := by
      rw [hl]; exact if_pos rfl
    unfold Wk
    rw [e]
    rw [← hl] at he
    refine ⟨⟨by have := hw.1.1; omega, hw.1.2.1, by omega⟩, fun x x1 x2 => ?_, fun q => by omega, ⟨fun q => by omega, fun _ => ⟨by omega, fun x x1 x2 => by omega⟩⟩⟩
    by_cases hx : x = i
    · rw [hx]; exact hc
    · exact hw.2.1 x x1 (by omega)
  · have e : upF ln (b - 1) (ln (b - 1) + 1) w = ln w := if_neg hl
    unfold Wk
    rw [e]
    exact ⟨⟨hw.1.1, hw.1.2.1, by have := hw.1.2.2; omega⟩, hw.2.1, hw.2.2.1, hg _ _ (by omega) hw.2.2.2⟩
theorem Fk.new {st ln ch : Int → Int} {fr i a b : Int} (h : Fk st ln ch fr i a b) (hi : 0 ≤ i) (he : a < b → st (b - 1) + ln (b - 1) < i) (hc : ch i ≠ 32) : Fk (upF st b i) (upF (upF ln b 0) b 1) ch fr (i + 1) a (b + 1) := by
  have es : upF st b i b = i := if_pos rfl
  have el : upF (upF ln b 0) b 1 b = 1 := if_pos rfl
  have hs : ∀ w : Int, w < b → upF st b i w = st w := fun w hw => if_neg (by omega)
  have hl : ∀ w : Int, w < b → upF (upF ln b 0) b 1 w = ln w := fun w hw => by
    show (if w = b then (1 : Int) else if w = b then 0 else ln w) = ln w
    rw [if_neg (by omega), if_neg (by omega)]
  have hg : ∀ k w : Int, w ≤ b → Gp st ch i b k w → Gp (upF st b i) ch (i + 1) (b + 1) k w := fun k w hw q => ⟨fun _ => by
    by_cases hb : w = b
    · rw [hb, es]; exact q.2 hb
    · rw [hs w (by omega)]; exact q.1 (by omega), fun e => by omega⟩
  refine ⟨by have := h.1; omega, h.2.1, hg _ _ h.1 h.2.2.1, fun w w1 w2 => ?_⟩
  by_cases hb : w = b
  · rw [hb]
    unfold Wk
    rw [es, el]
    refine ⟨⟨by omega, hi, by omega⟩, fun x x1 x2 => ?_, fun q => by omega, ⟨fun q => by omega, fun _ => ⟨by omega, fun x x1 x2 => by omega⟩⟩⟩
    rw [show x = i by omega]; exact hc
  · have hw := h.2.2.2 w w1 (by omega)
    unfold Wk
    rw [hs w (by omega), hl w (by omega)]
    refine ⟨⟨hw.1.1, hw.1.2.1, by have := hw.1.2.2; omega⟩, hw.2.1, fun q => ?_, hg _ _ (by omega) hw.2.2.2⟩
    by_cases hb2 : w + 1 = b
    · rw [hb2, es]
      have := he (by omega)
      rw [show w = b - 1 by omega]
      exact this
    · rw [hs (w + 1) (by omega)]
      exact hw.2.2.1 (by omega)
theorem Fk.zero (st ln ch : Int → Int) {i a : Int} (hi : 0 ≤ i) : Fk st ln ch i i a a := ⟨Int.le_refl _, hi, ⟨fun h => by omega, fun _ => ⟨Int.le_refl _, fun x _ _ => by omega⟩⟩, fun w _ _ => by omega⟩
def PtOk (ch : Int → Int) (s l p : Int) : Prop := (p = -1 ∧ ∀ x : Int, s ≤ x → x < s + l → ch x ≠ 46) ∨ ((0 ≤ p ∧ p < l) ∧ ch (s + p) = 46 ∧ ∀ x : Int, s ≤ x → x < s + p → ch x ≠ 46)
theorem PtOk.grow {ch : Int → Int} {s l p i : Int} (h : PtOk ch s l p) (hl : 0 ≤ l) (he : s + l = i) : PtOk ch s (l + 1) (if ch i = 46 ∧ p = -1 then l else p) := by
  rcases h with h | h
  · by_cases hc : ch i = 46
    · rw [if_pos ⟨hc, h.1⟩]
      exact Or.inr ⟨by omega, by rw [he]; exact hc, fun x x1 x2 => h.2 x x1 x2⟩
    · rw [if_neg (fun q => hc q.1)]
      refine Or.inl ⟨h.1, fun x x1 x2 => ?_⟩
      by_cases hx : x = i
      · rw [hx]; exact hc
      · exact h.2 x x1 (by omega)
  · rw [if_neg (by omega)]
    exact Or.inr ⟨by omega, h.2.1, h.2.2⟩
def fF (en : Int → Int) (f : Int) : Int := if f = 0 then 0 else en (f - 1)
/-- the words of the first i characters -/
def TI (ch : Int → Int) (i iw nw nf : Int) (st ln pt en : Int → Int) : Prop :=
  ∃ fs : Int → Int, (0 ≤ nw ∧ nw ≤ i) ∧ (0 ≤ nf ∧ nf ≤ i) ∧ fs 0 = 0 ∧ (∀ x : Int, fs nf ≤ x → x < i → ch x ≠ 9) ∧ Fk st ln ch (fs nf) i (fF en nf) nw ∧
  ((iw = 1 ∧ fF en nf < nw ∧ st (nw - 1) + ln (nw - 1) = i) ∨ (iw = 0 ∧ (fF en nf < nw → st (nw - 1) + ln (nw - 1) < i))) ∧
  (∀ w : Int, 0 ≤ w → w < nw → PtOk ch (st w) (ln w) (pt w)) ∧
  ∀ f : Int, 0 ≤ f → f < nf → ch (fs (f + 1) - 1) = 9 ∧ fs (f + 1) ≤ i ∧ (∀ x : Int, fs f ≤ x → x < fs (f + 1) - 1 → ch x ≠ 9) ∧ en f ≤ fF en nf ∧ Fk st ln ch (fs f) (fs (f + 1) - 1) (fF en f) (en f)
theorem fF_z {ch : Int → Int} {i iw nw nf : Int} {st ln pt en : Int → Int} (h : TI ch i iw nw nf st ln pt en) : ∀ f : Int, 0 ≤ f → f ≤ nf → 0 ≤ fF en f := by
  obtain ⟨fs, h1, h2, h3, h4, h5, h6, h7, h8⟩ := h
  intro f f1 f2
  obtain ⟨n, rfl⟩ : ∃ n : Nat, f = n := ⟨f.toNat, by omega⟩
  induction n with
  | zero => exact Int.le_refl _
  | succ n ih =>
    have := (h8 n (by omega) (by omega)).2.2.2.2.1
    have := ih (by omega) (by omega)
    unfold fF
    rw [if_neg (by omega), show ((n + 1 : Nat) : Int) - 1 = n by omega]
    omega
theorem TI.space {ch : Int → Int} {i iw nw nf : Int} {st ln pt en : Int → Int} (h : TI ch i iw nw nf st ln pt en) (hc : ch i = 32) : TI ch (i + 1) 0 nw nf st ln pt en := by
  obtain ⟨fs, h1, h2, h3, h4, h5, h6, h7, h8⟩ := h
  refine ⟨fs, by omega, by omega, h3, fun x x1 x2 => ?_, h5.space hc, Or.inr ⟨rfl, fun q => ?_⟩, h7, fun f f1 f2 => ?_⟩
  · by_cases hx : x = i
    · rw [hx]; omega
    · exact h4 x x1 (by omega)
  · rcases h6 with h | h
    · omega
    · have := h.2 q; omega
  · have := h8 f f1 f2
    exact ⟨this.1, by omega, this.2.2⟩
theorem TI.grow {ch : Int → Int} {i iw nw nf : Int} {st ln pt en : Int → Int} (h : TI ch i iw nw nf st ln pt en) (hi : iw = 1) (hc : ch i ≠ 32 ∧ ch i ≠ 9) : TI ch (i + 1) 1 nw nf st (upF ln (nw - 1) (ln (nw - 1) + 1)) (upF pt (nw - 1) (if ch i = 46 ∧ pt (nw - 1) = -1 then ln (nw - 1) else pt (nw - 1))) en := by
  have hz := fF_z h nf (by obtain ⟨fs, h1, h2, _⟩ := h; omega) (Int.le_refl _)
  obtain ⟨fs, h1, h2, h3, h4, h5, h6, h7, h8⟩ := h
  rcases h6 with h6 | h6
  · have e : upF ln (nw - 1) (ln (nw - 1) + 1) (nw - 1) = ln (nw - 1) + 1 := if_pos rfl
    refine ⟨fs, by omega, by omega, h3, fun x x1 x2 => ?_, h5.grow h6.2.1 h6.2.2 hc.1, Or.inl ⟨rfl, h6.2.1, by rw [e]; omega⟩, fun w w1 w2 => ?_, fun f f1 f2 => ?_⟩
    · by_cases hx : x = i
      · rw [hx]; exact hc.2
      · exact h4 x x1 (by omega)
    · unfold upF
      by_cases hw : w = nw - 1
      · rw [if_pos hw, if_pos hw, hw]
        have hl := (h5.2.2.2 (nw - 1) (by omega) (by omega)).1.1
        exact (h7 (nw - 1) (by omega) (by omega)).grow (by omega) h6.2.2
      · rw [if_neg hw, if_neg hw]; exact h7 w w1 w2
    · have := h8 f f1 f2
      exact ⟨this.1, by omega, this.2.2.1, this.2.2.2.1, this.2.2.2.2.congr fun w w1 w2 => ⟨rfl, if_neg (by omega)⟩⟩
  · omega
theorem TI.new {ch : Int → Int} {i iw nw nf : Int} {st ln pt en : Int → Int} (h : TI ch i iw nw nf st ln pt en) (hi0 : 0 ≤ i) (hi : iw = 0) (hc : ch i ≠ 32 ∧ ch i ≠ 9) : TI ch (i + 1) 1 (nw + 1) nf (upF st nw i) (upF (upF ln nw 0) nw 1) (upF (upF pt nw (-1)) nw (if ch i = 46 then 0 else -1)) en := by
  have hz := fF_z h nf (by obtain ⟨fs, h1, h2, _⟩ := h; omega) (Int.le_refl _)
  obtain ⟨fs, h1, h2, h3, h4, h5, h6, h7, h8⟩ := h
  rcases h6 with h6 | h6
  · omega
  · have es : upF st nw i nw = i := if_pos rfl
    have el : upF (upF ln nw 0) nw 1 nw = 1 := if_pos rfl
    have hs : ∀ w : Int, w < nw → upF st nw i w = st w := fun w hw => if_neg (by omega)
    have hl : ∀ w : Int, w < nw → upF (upF ln nw 0) nw 1 w = ln w := fun w hw => by
      show (if w = nw then (1 : Int) else if w = nw then 0 else ln w) = ln w
      rw [if_neg (by omega), if_neg (by omega)]
    have hfn := h5.1
    refine ⟨fs, by omega, by omega, h3, fun x x1 x2 => ?_, h5.new hi0 h6.2 hc.1, Or.inl ⟨rfl, by omega, ?_⟩, fun w w1 w2 => ?_, fun f f1 f2 => ?_⟩
    · by_cases hx : x = i
      · rw [hx]; exact hc.2
      · exact h4 x x1 (by omega)
    · rw [show nw + 1 - 1 = nw by omega, es, el]
    · by_cases hw : w = nw
      · rw [hw, es, el]
        have ep : upF (upF pt nw (-1)) nw (if ch i = 46 then 0 else -1) nw = if ch i = 46 then 0 else -1 := if_pos rfl
        rw [ep]
        by_cases h46 : ch i = 46
        · rw [if_pos h46]
          exact Or.inr ⟨by omega, by rw [Int.add_zero]; exact h46, fun x x1 x2 => by omega⟩
        · rw [if_neg h46]
          exact Or.inl ⟨rfl, fun x x1 x2 => by rw [show x = i by omega]; exact h46⟩
      · rw [hs w (by omega), hl w (by omega)]
        have ep : upF (upF pt nw (-1)) nw (if ch i = 46 then 0 else -1) w = pt w := by
          show (if w = nw then (if ch i = 46 then (0 : Int) else -1) else if w = nw then -1 else pt w) = pt w
          rw [if_neg hw, if_neg hw]
        rw [ep]
        exact h7 w w1 (by omega)
    · have := h8 f f1 f2
      exact ⟨this.1, by omega, this.2.2.1, this.2.2.2.1, this.2.2.2.2.congr fun w w1 w2 => ⟨hs w (by omega), hl w (by omega)⟩⟩
theorem TI.tab {ch : Int → Int} {i iw nw nf : Int} {st ln pt en : Int → Int} (h : TI ch i iw nw nf st ln pt en) (hi : 0 ≤ i) (hc : ch i = 9) : TI ch (i + 1) 0 nw (nf + 1) st ln pt (upF en nf nw) := by
  obtain ⟨fs, h1, h2, h3, h4, h5, h6, h7, h8⟩ := h
  have hb := h5.bd
  have ef : fF (upF en nf nw) (nf + 1) = nw := by
    unfold fF
    rw [if_neg (by omega), show nf + 1 - 1 = nf by omega]
    exact if_pos rfl
  have ef2 : ∀ f : Int, f ≤ nf → fF (upF en nf nw) f = fF en f := fun f hf => by
    unfold fF
    by_cases h0 : f = 0
    · rw [if_pos h0, if_pos h0]
    · rw [if_neg h0, if_neg h0]; exact if_neg (by omega)
  have eN : upF fs (nf + 1) (i + 1) (nf + 1) = i + 1 := if_pos rfl
  have eO : ∀ f : Int, f ≤ nf → upF fs (nf + 1) (i + 1) f = fs f := fun f hf => if_neg (by omega)
  refine ⟨upF fs (nf + 1) (i + 1), by omega, by omega, (eO 0 (by omega)).trans h3, fun x x1 x2 => by rw [eN] at x1; omega, by rw [eN, ef]; exact Fk.zero _ _ _ (by omega), Or.inr ⟨rfl, fun q => by omega⟩, h7, fun f f1 f2 => ?_⟩
  by_cases hf : f = nf
  · rw [hf, eN, eO nf (by omega), ef, ef2 nf (by omega), show i + 1 - 1 = i by omega]
    have e9 : upF en nf nw nf = nw := if_pos rfl
    rw [e9]
    exact ⟨hc, by omega, h4, by omega, h5⟩
  · have h9 := h8 f f1 (by omega)
    have e9 : upF en nf nw f = en f := if_neg hf
    rw [eO (f + 1) (by omega), eO f (by omega), ef, ef2 f (by omega), e9]
    exact ⟨h9.1, by omega, h9.2.2.1, by have := h5.1; omega, h9.2.2.2.2⟩
theorem TI.zero (ch st ln pt en : Int → Int) : TI ch 0 0 0 0 st ln pt en := ⟨fun _ => 0, by omega, by omega, rfl, fun x x1 x2 => by have x1 : (0 : Int) ≤ x := x1; omega, Fk.zero st ln ch (i := 0) (by omega), Or.inr ⟨rfl, fun q => by have q : fF en 0 < 0 := q; unfold fF at q; rw [if_pos rfl] at q; omega⟩, fun w w1 w2 => by omega, fun f f1 f2 => by omega⟩
/-- fields and words of len characters -/
def WOk (ch : Int → Int) (len nf : Int) (st ln pt en : Int → Int) : Prop :=
  (1 ≤ nf ∧ nf ≤ len + 1) ∧ ∃ fs : Int → Int, fs 0 = 0 ∧ (∀ w : Int, 0 ≤ w → w < en (nf - 1) → PtOk ch (st w) (ln w) (pt w)) ∧
  ∀ f : Int, 0 ≤ f → f < nf → (if f = nf - 1 then fs (f + 1) - 1 = len else ch (fs (f + 1) - 1) = 9) ∧ fs (f + 1) - 1 ≤ len ∧ (∀ x : Int, fs f ≤ x → x < fs (f + 1) - 1 → ch x ≠ 9) ∧ 0 ≤ fF en f ∧ (0 ≤ en f ∧ en f ≤ en (nf - 1) ∧ en f ≤ len) ∧ Fk st ln ch (fs f) (fs (f + 1) - 1) (fF en f) (en f)
theorem TI.ok {ch : Int → Int} {i iw nw nf : Int} {st ln pt en : Int → Int} (h : TI ch i iw nw nf st ln pt en) : WOk ch i (nf + 1) st ln pt (upF en nf nw) := by
  have hz := fF_z h
  obtain ⟨fs, h1, h2, h3, h4, h5, h6, h7, h8⟩ := h
  have hb := h5.bd
  have ef2 : ∀ f : Int, f ≤ nf → fF (upF en nf nw) f = fF en f := fun f hf => by
    unfold fF
    by_cases h0 : f = 0
    · rw [if_pos h0, if_pos h0]
    · rw [if_neg h0, if_neg h0]; exact if_neg (by omega)
  have eN : upF fs (nf + 1) (i + 1) (nf + 1) = i + 1 := if_pos rfl
  have eO : ∀ f : Int, f ≤ nf → upF fs (nf + 1) (i + 1) f = fs f := fun f hf => if_neg (by omega)
  have el : upF en nf nw (nf + 1 - 1) = nw := if_pos (by omega)
  refine ⟨by omega, upF fs (nf + 1) (i + 1), (eO 0 (by omega)).trans h3, fun w w1 w2 => h7 w w1 (by rw [el] at w2; exact w2), fun f f1 f2 => ?_⟩
  rw [el]
  have hzf := hz f f1 (by omega)
  by_cases hf : f = nf
  · rw [if_pos (by omega), hf, eN, eO nf (by omega), ef2 nf (by omega), show i + 1 - 1 = i by omega]
    rw [hf] at hzf
    have e9 : upF en nf nw nf = nw := if_pos rfl
    rw [e9]
    exact ⟨rfl, by omega, h4, hzf, by omega, h5⟩
  · have h9 := h8 f f1 (by omega)
    have e9 : upF en nf nw f = en f := if_neg hf
    rw [if_neg (by omega), eO (f + 1) (by omega), eO f (by omega), ef2 f (by omega), e9]
    have h91 := h9.2.2.2.2.1
    have h51 := h5.1
    exact ⟨h9.1, by omega, h9.2.2.1, hzf, by omega, h9.2.2.2.2⟩
abbrev TW : Type := Int × Int × Int × (Int → Int) × (Int → Int) × (Int → Int) × (Int → Int)
def tkS (ch : Int → Int) (i : Int) (T : TW) : TW :=
  if ch i = 32 then (0, T.2) else if ch i = 9 then (0, T.2.1, T.2.2.1 + 1, T.2.2.2.1, T.2.2.2.2.1, T.2.2.2.2.2.1, upF T.2.2.2.2.2.2 T.2.2.1 T.2.1)
  else if T.1 = 0 then (1, T.2.1 + 1, T.2.2.1, upF T.2.2.2.1 T.2.1 i, upF (upF T.2.2.2.2.1 T.2.1 0) T.2.1 1, upF (upF T.2.2.2.2.2.1 T.2.1 (-1)) T.2.1 (if ch i = 46 then 0 else -1), T.2.2.2.2.2.2)
  else (1, T.2.1, T.2.2.1, T.2.2.2.1, upF T.2.2.2.2.1 (T.2.1 - 1) (T.2.2.2.2.1 (T.2.1 - 1) + 1), upF T.2.2.2.2.2.1 (T.2.1 - 1) (if ch i = 46 ∧ T.2.2.2.2.2.1 (T.2.1 - 1) = -1 then T.2.2.2.2.1 (T.2.1 - 1) else T.2.2.2.2.2.1 (T.2.1 - 1)), T.2.2.2.2.2.2)
def tkT (ch : Int → Int) : Nat → TW
  | 0 => (0, 0, 0, fun _ => 0, fun _ => 0, fun _ => 0, fun _ => 0)
  | n + 1 => tkS ch n (tkT ch n)
def TIT (ch : Int → Int) (i : Int) (T : TW) : Prop := TI ch i T.1 T.2.1 T.2.2.1 T.2.2.2.1 T.2.2.2.2.1 T.2.2.2.2.2.1 T.2.2.2.2.2.2
theorem TIT.iw {ch : Int → Int} {i : Int} {T : TW} (h : TIT ch i T) : T.1 = 0 ∨ T.1 = 1 := by
  obtain ⟨fs, _, _, _, _, _, h6, _⟩ := h
  rcases h6 with h | h <;> omega
theorem tkT_ok (ch : Int → Int) : ∀ n : Nat, TIT ch n (tkT ch n)
  | 0 => TI.zero _ _ _ _ _
  | n + 1 => by
    have h := tkT_ok ch n
    have hw := h.iw
    show TIT ch ((n : Int) + 1) (tkS ch n (tkT ch n))
    unfold tkS
    by_cases h1 : ch n = 32
    · rw [if_pos h1]; exact TI.space h h1
    · rw [if_neg h1]
      by_cases h2 : ch n = 9
      · rw [if_pos h2]; exact TI.tab h (by omega) h2
      · rw [if_neg h2]
        by_cases h3 : (tkT ch n).1 = 0
        · rw [if_pos h3]; exact TI.new h (by omega) h3 ⟨h1, h2⟩
        · rw [if_neg h3]; exact TI.grow h (by omega) ⟨h1, h2⟩
/-- the memory stands as the words say -/
def TA (T : TW) (I : Mem) : Prop := I 35 1 = T.2.1 ∧ I 35 0 = T.2.2.1 ∧ (∀ w : Int, 0 ≤ w → w < T.2.1 → I 36 w = T.2.2.2.1 w ∧ I 37 w = T.2.2.2.2.1 w ∧ I 38 w = T.2.2.2.2.2.1 w) ∧ ∀ f : Int, 0 ≤ f → f < T.2.2.1 → I 39 f = T.2.2.2.2.2.2 f
theorem upF_ag {g h : Int → Int} {n p v w : Int} (hgh : ∀ w : Int, 0 ≤ w → w < n → g w = h w) (hw : 0 ≤ w ∧ (w < n ∨ w = p)) : upF g p v w = upF h p v w := by
  unfold upF
  by_cases q : w = p
  · rw [if_pos q, if_pos q]
  · rw [if_neg q, if_neg q]
    exact hgh w hw.1 (by omega)
/-- what the fields and words of a text are -/
def wdT (v : YV) : TW := (0, (tkT v.2.2 v.2.1.toNat).2.1, (tkT v.2.2 v.2.1.toNat).2.2.1 + 1, (tkT v.2.2 v.2.1.toNat).2.2.2.1, (tkT v.2.2 v.2.1.toNat).2.2.2.2.1, (tkT v.2.2 v.2.1.toNat).2.2.2.2.2.1, upF (tkT v.2.2 v.2.1.toNat).2.2.2.2.2.2 (tkT v.2.2 v.2.1.toNat).2.2.1 (tkT v.2.2 v.2.1.toNat).2.1)
theorem wdT_ok {v : YV} (hv : WfP v) : WOk v.2.2 v.2.1 (wdT v).2.2.1 (wdT v).2.2.2.1 (wdT v).2.2.2.2.1 (wdT v).2.2.2.2.2.1 (wdT v).2.2.2.2.2.2 := by
  have h := tkT_ok v.2.2 v.2.1.toNat
  rw [show ((v.2.1.toNat : Nat) : Int) = v.2.1 by have := hv.2.1; omega] at h
  exact TI.ok h
set_option maxHeartbeats 4000000 in
set_option maxRecDepth 100000 in
theorem c_startWord (I : Mem) (R : RMem) (hRO : RefOk R) (i : Int) (hn : 0 ≤ I 35 1 ∧ I 35 1 < 80) : CC 0 0 0 yX6_startWord cX6_startWord 2 none [.inr (some 35), .inl (i)] (290, ShF, I, R) (PW R (fun I1 => I1 = u2 (u2 (u2 (u2 I 36 (I 35 1) i) 37 (I 35 1) 0) 38 (I 35 1) (-1)) 35 1 (I 35 1 + 1))) := by
  refine CC_of (own := RX6) (ini := false) (by decide +kernel) rfl (fun h => absurd h (by decide)) (Nat.le_of_ble_eq_true rfl) ?_
  show WW cX6_startWord RX6 2 none false 0 0 0 (PW R (fun I1 => I1 = u2 (u2 (u2 (u2 I 36 (I 35 1) i) 37 (I 35 1) 0) 38 (I 35 1) (-1)) 35 1 (I 35 1 + 1))) 0 0 0 [some (.inr (some 35)), some (.inl (i))] [] (290, ShF, I, R)
  refine r_aload_n dX6_startWord_0 rfl ?_
  refine q_getI fl_X6_28 dX6_startWord_1 sf_35 ?_
  refine r_bipush dX6_startWord_4 (by decide) ?_
  refine r_icmpge (tgt := 49) dX6_startWord_6 (by decide) (by omega) (by omega) (fun h6 => ?_) (fun h6 => ?_)
  · refine q_vretW dX6_startWord_49 rfl ?_
    first | rfl | (exfalso; omega)
  · refine r_aload_n dX6_startWord_9 rfl ?_
    refine q_getR fl_X6_9 dX6_startWord_10 sf_35 (ro_35_2 hRO) ?_
    refine r_aload_n dX6_startWord_13 rfl ?_
    refine q_getI fl_X6_28 dX6_startWord_14 sf_35 ?_
    refine r_iload_n dX6_startWord_17 rfl ?_
    refine q_iast dX6_startWord_18 sf_36 (by omega) ?_
    refine r_aload_n dX6_startWord_19 rfl ?_
    refine q_getR fl_X6_15 dX6_startWord_20 sf_35 (ro_35_3 hRO) ?_
    refine r_aload_n dX6_startWord_23 rfl ?_
    refine q_getI fl_X6_28 dX6_startWord_24 sf_35 ?_
    rw [u2_n (Or.inl (by decide))]
    refine r_iconst dX6_startWord_27 ?_
    refine q_iast dX6_startWord_28 sf_37 (by omega) ?_
    refine r_aload_n dX6_startWord_29 rfl ?_
    refine q_getR fl_X6_18 dX6_startWord_30 sf_35 (ro_35_4 hRO) ?_
    refine r_aload_n dX6_startWord_33 rfl ?_
    refine q_getI fl_X6_28 dX6_startWord_34 sf_35 ?_
    rw [u2_n (Or.inl (by decide)), u2_n (Or.inl (by decide))]
    refine r_iconst dX6_startWord_37 ?_
    refine q_iast dX6_startWord_38 sf_38 (by omega) ?_
    refine r_aload_n dX6_startWord_39 rfl ?_
    refine r_dup dX6_startWord_40 ?_
    refine q_getI fl_X6_28 dX6_startWord_41 sf_35 ?_
    rw [u2_n (Or.inl (by decide)), u2_n (Or.inl (by decide)), u2_n (Or.inl (by decide))]
    refine r_iconst dX6_startWord_44 ?_
    refine r_iadd dX6_startWord_45 ?_
    refine q_putI fl_X6_28 dX6_startWord_46 sf_35 ?_
    refine q_vretW dX6_startWord_49 rfl ?_
    first | rfl | (exfalso; omega)
def gw (I : Mem) (w c : Int) : Mem := u2 (if c = 46 ∧ I 38 w = -1 then u2 I 38 w (I 37 w) else I) 37 w (I 37 w + 1)
set_option maxHeartbeats 4000000 in
set_option maxRecDepth 100000 in
theorem c_growWord (I : Mem) (R : RMem) (hRO : RefOk R) (c : Int) (hc : -2147483648 ≤ c ∧ c ≤ 2147483647) (hn : 1 ≤ I 35 1 ∧ I 35 1 ≤ 80) (hp : -1 ≤ I 38 (I 35 1 - 1) ∧ I 38 (I 35 1 - 1) ≤ 100) : CC 2 0 0 yX6_growWord cX6_growWord 3 none [.inr (some 35), .inl (c)] (290, ShF, I, R) (PW R (fun I1 => I1 = gw I (I 35 1 - 1) c)) := by
  refine CC_of (own := RX6) (ini := false) (by decide +kernel) rfl (fun h => absurd h (by decide)) (Nat.le_of_ble_eq_true rfl) ?_
  show WW cX6_growWord RX6 3 none false 2 0 0 (PW R (fun I1 => I1 = gw I (I 35 1 - 1) c)) 0 0 0 [some (.inr (some 35)), some (.inl (c)), none] [] (290, ShF, I, R)
  refine r_aload_n dX6_growWord_0 rfl ?_
  refine q_getI fl_X6_28 dX6_growWord_1 sf_35 ?_
  refine r_iconst dX6_growWord_4 ?_
  refine r_isub dX6_growWord_5 ?_
  refine r_istore_n dX6_growWord_6 (by decide) ?_
  dsimp only [lset]
  refine r_iload_n dX6_growWord_7 rfl ?_
  refine r_iconst dX6_growWord_8 ?_
  refine r_bipush dX6_growWord_9 (by decide) ?_
  refine q_callSF lk_X6_50 dX6_growWord_11 (c_isWithin I R (I 35 1 - 1) 0 79 (by omega) (by decide) (by decide)) (by decide) rfl rfl (Nat.le_of_ble_eq_true rfl) (by decide) ?_
  refine q_ifeqB (tgt := 55) dX6_growWord_14 (by decide) (fun h14 => ?_) (fun h14 => ?_)
  · exfalso
    omega
  · refine r_iload_n dX6_growWord_17 rfl ?_
    refine r_bipush dX6_growWord_18 (by decide) ?_
    refine r_icmpne (tgt := 45) dX6_growWord_20 (by decide) (by omega) (by omega) (fun h20 => ?_) (fun h20 => ?_)
    · refine r_aload_n dX6_growWord_45 rfl ?_
      refine q_getR fl_X6_15 dX6_growWord_46 sf_35 (ro_35_3 hRO) ?_
      refine r_iload_n dX6_growWord_49 rfl ?_
      refine r_dup2 dX6_growWord_50 ?_
      refine q_iald dX6_growWord_51 sf_37 (by omega) ?_
      refine r_iconst dX6_growWord_52 ?_
      refine r_iadd dX6_growWord_53 ?_
      refine q_iast dX6_growWord_54 sf_37 (by omega) ?_
      refine q_vretW dX6_growWord_55 rfl ?_
      unfold gw
      first
        | (rw [if_pos (by omega), u2_n (Or.inl (by decide))])
        | (rw [if_neg (by omega)])
    · refine r_aload_n dX6_growWord_23 rfl ?_
      refine q_getR fl_X6_18 dX6_growWord_24 sf_35 (ro_35_4 hRO) ?_
      refine r_iload_n dX6_growWord_27 rfl ?_
      refine q_iald dX6_growWord_28 sf_38 (by omega) ?_
      refine r_iconst dX6_growWord_29 ?_
      refine r_icmpne (tgt := 45) dX6_growWord_30 (by decide) (by omega) (by omega) (fun h30 => ?_) (fun h30 => ?_)
      · refine r_aload_n dX6_growWord_45 rfl ?_
        refine q_getR fl_X6_15 dX6_growWord_46 sf_35 (ro_35_3 hRO) ?_
        refine r_iload_n dX6_growWord_49 rfl ?_
        refine r_dup2 dX6_growWord_50 ?_
        refine q_iald dX6_growWord_51 sf_37 (by omega) ?_
        refine r_iconst dX6_growWord_52 ?_
        refine r_iadd dX6_growWord_53 ?_
        refine q_iast dX6_growWord_54 sf_37 (by omega) ?_
        refine q_vretW dX6_growWord_55 rfl ?_
        unfold gw
        first
          | (rw [if_pos (by omega), u2_n (Or.inl (by decide))])
          | (rw [if_neg (by omega)])
      · refine r_aload_n dX6_growWord_33 rfl ?_
        refine q_getR fl_X6_18 dX6_growWord_34 sf_35 (ro_35_4 hRO) ?_
        refine r_iload_n dX6_growWord_37 rfl ?_
        refine r_aload_n dX6_growWord_38 rfl ?_
        refine q_getR fl_X6_15 dX6_growWord_39 sf_35 (ro_35_3 hRO) ?_
        refine r_iload_n dX6_growWord_42 rfl ?_
        refine q_iald dX6_growWord_43 sf_37 (by omega) ?_
        refine q_iast dX6_growWord_44 sf_38 (by omega) ?_
        refine r_aload_n dX6_growWord_45 rfl ?_
        refine q_getR fl_X6_15 dX6_growWord_46 sf_35 (ro_35_3 hRO) ?_
        refine r_iload_n dX6_growWord_49 rfl ?_
        refine r_dup2 dX6_growWord_50 ?_
        refine q_iald dX6_growWord_51 sf_37 (by omega) ?_
        refine r_iconst dX6_growWord_52 ?_
        refine r_iadd dX6_growWord_53 ?_
        refine q_iast dX6_growWord_54 sf_37 (by omega) ?_
        refine q_vretW dX6_growWord_55 rfl ?_
        unfold gw
        first
          | (rw [if_pos (by omega), u2_n (Or.inl (by decide))])
          | (rw [if_neg (by omega)])
set_option maxHeartbeats 4000000 in
set_option maxRecDepth 100000 in
theorem c_endField (I : Mem) (R : RMem) (hRO : RefOk R) (hn : 0 ≤ I 35 0 ∧ I 35 0 < 81) : CC 0 0 0 yX6_endField cX6_endField 1 none [.inr (some 35)] (290, ShF, I, R) (PW R (fun I1 => I1 = u2 (u2 I 39 (I 35 0) (I 35 1)) 35 0 (I 35 0 + 1))) := by
  refine CC_of (own := RX6) (ini := false) (by decide +kernel) rfl (fun h => absurd h (by decide)) (Nat.le_of_ble_eq_true rfl) ?_
  show WW cX6_endField RX6 1 none false 0 0 0 (PW R (fun I1 => I1 = u2 (u2 I 39 (I 35 0) (I 35 1)) 35 0 (I 35 0 + 1))) 0 0 0 [some (.inr (some 35))] [] (290, ShF, I, R)
  refine r_aload_n dX6_endField_0 rfl ?_
  refine q_getI fl_X6_24 dX6_endField_1 sf_35 ?_
  refine r_bipush dX6_endField_4 (by decide) ?_
  refine r_icmpge (tgt := 32) dX6_endField_6 (by decide) (by omega) (by omega) (fun h6 => ?_) (fun h6 => ?_)
  · refine q_vretW dX6_endField_32 rfl ?_
    first | rfl | (exfalso; omega)
  · refine r_aload_n dX6_endField_9 rfl ?_
    refine q_getR fl_X6_21 dX6_endField_10 sf_35 (ro_35_5 hRO) ?_
    refine r_aload_n dX6_endField_13 rfl ?_
    refine q_getI fl_X6_24 dX6_endField_14 sf_35 ?_
    refine r_aload_n dX6_endField_17 rfl ?_
    refine q_getI fl_X6_28 dX6_endField_18 sf_35 ?_
    refine q_iast dX6_endField_21 sf_39 (by omega) ?_
    refine r_aload_n dX6_endField_22 rfl ?_
    refine r_dup dX6_endField_23 ?_
    refine q_getI fl_X6_24 dX6_endField_24 sf_35 ?_
    rw [u2_n (Or.inl (by decide))]
    refine r_iconst dX6_endField_27 ?_
    refine r_iadd dX6_endField_28 ?_
    refine q_putI fl_X6_24 dX6_endField_29 sf_35 ?_
    refine q_vretW dX6_endField_32 rfl ?_
    first | rfl | (exfalso; omega)
set_option maxHeartbeats 4000000 in
set_option maxRecDepth 100000 in
theorem c_firstOf (I : Mem) (R : RMem) (hRO : RefOk R) (f : Int) (hf : -2147483648 ≤ f ∧ f ≤ 2147483647) : CC 0 0 0 yX6_firstOf cX6_firstOf 2 (some .int) [.inr (some 35), .inl (f)] (290, ShF, I, R) (PF (if 1 ≤ f ∧ f ≤ 81 then I 39 (f - 1) else 0) I R) := by
  refine CC_of (own := RX6) (ini := false) (by decide +kernel) rfl (fun h => absurd h (by decide)) (Nat.le_of_ble_eq_true rfl) ?_
  show WW cX6_firstOf RX6 2 (some .int) false 0 0 0 (PF (if 1 ≤ f ∧ f ≤ 81 then I 39 (f - 1) else 0) I R) 0 0 0 [some (.inr (some 35)), some (.inl (f))] [] (290, ShF, I, R)
  refine r_iload_n dX6_firstOf_0 rfl ?_
  refine r_iconst dX6_firstOf_1 ?_
  refine r_icmplt (tgt := 22) dX6_firstOf_2 (by decide) (by omega) (by omega) (fun h2 => ?_) (fun h2 => ?_)
  · refine r_iconst dX6_firstOf_22 ?_
    refine q_iretF dX6_firstOf_23 rfl ?_
    first | exact (if_pos (by omega)).symm | exact (if_neg (by omega)).symm
  · refine r_iload_n dX6_firstOf_5 rfl ?_
    refine r_bipush dX6_firstOf_6 (by decide) ?_
    refine r_icmpgt (tgt := 22) dX6_firstOf_8 (by decide) (by omega) (by omega) (fun h8 => ?_) (fun h8 => ?_)
    · refine r_iconst dX6_firstOf_22 ?_
      refine q_iretF dX6_firstOf_23 rfl ?_
      first | exact (if_pos (by omega)).symm | exact (if_neg (by omega)).symm
    · refine r_aload_n dX6_firstOf_11 rfl ?_
      refine q_getR fl_X6_21 dX6_firstOf_12 sf_35 (ro_35_5 hRO) ?_
      refine r_iload_n dX6_firstOf_15 rfl ?_
      refine r_iconst dX6_firstOf_16 ?_
      refine r_isub dX6_firstOf_17 ?_
      refine q_iald dX6_firstOf_18 sf_39 (by omega) ?_
      refine r_goto (tgt := 23) dX6_firstOf_19 (by decide) ?_
      refine q_iretF dX6_firstOf_23 rfl ?_
      first | exact (if_pos (by omega)).symm | exact (if_neg (by omega)).symm
set_option maxHeartbeats 4000000 in
set_option maxRecDepth 100000 in
theorem c_endOf (I : Mem) (R : RMem) (hRO : RefOk R) (f : Int) (hf : -2147483648 ≤ f ∧ f ≤ 2147483647) : CC 0 0 0 yX6_endOf cX6_endOf 2 (some .int) [.inr (some 35), .inl (f)] (290, ShF, I, R) (PF (if 0 ≤ f ∧ f < 81 then I 39 f else 0) I R) := by
  refine CC_of (own := RX6) (ini := false) (by decide +kernel) rfl (fun h => absurd h (by decide)) (Nat.le_of_ble_eq_true rfl) ?_
  show WW cX6_endOf RX6 2 (some .int) false 0 0 0 (PF (if 0 ≤ f ∧ f < 81 then I 39 f else 0) I R) 0 0 0 [some (.inr (some 35)), some (.inl (f))] [] (290, ShF, I, R)
  refine r_iload_n dX6_endOf_0 rfl ?_
  refine r_iflt (tgt := 19) dX6_endOf_1 (by decide) (by omega) (fun h1 => ?_) (fun h1 => ?_)
  · refine r_iconst dX6_endOf_19 ?_
    refine q_iretF dX6_endOf_20 rfl ?_
    first | exact (if_pos (by omega)).symm | exact (if_neg (by omega)).symm
  · refine r_iload_n dX6_endOf_4 rfl ?_
    refine r_bipush dX6_endOf_5 (by decide) ?_
    refine r_icmpge (tgt := 19) dX6_endOf_7 (by decide) (by omega) (by omega) (fun h7 => ?_) (fun h7 => ?_)
    · refine r_iconst dX6_endOf_19 ?_
      refine q_iretF dX6_endOf_20 rfl ?_
      first | exact (if_pos (by omega)).symm | exact (if_neg (by omega)).symm
    · refine r_aload_n dX6_endOf_10 rfl ?_
      refine q_getR fl_X6_21 dX6_endOf_11 sf_35 (ro_35_5 hRO) ?_
      refine r_iload_n dX6_endOf_14 rfl ?_
      refine q_iald dX6_endOf_15 sf_39 (by omega) ?_
      refine r_goto (tgt := 20) dX6_endOf_16 (by decide) ?_
      refine q_iretF dX6_endOf_20 rfl ?_
      first | exact (if_pos (by omega)).symm | exact (if_neg (by omega)).symm
set_option maxHeartbeats 4000000 in
set_option maxRecDepth 100000 in
theorem c_startOf (I : Mem) (R : RMem) (hRO : RefOk R) (w : Int) (hw : -2147483648 ≤ w ∧ w ≤ 2147483647) : CC 0 0 0 yX6_startOf cX6_startOf 2 (some .int) [.inr (some 35), .inl (w)] (290, ShF, I, R) (PF (if 0 ≤ w ∧ w < 80 then I 36 w else 0) I R) := by
  refine CC_of (own := RX6) (ini := false) (by decide +kernel) rfl (fun h => absurd h (by decide)) (Nat.le_of_ble_eq_true rfl) ?_
  show WW cX6_startOf RX6 2 (some .int) false 0 0 0 (PF (if 0 ≤ w ∧ w < 80 then I 36 w else 0) I R) 0 0 0 [some (.inr (some 35)), some (.inl (w))] [] (290, ShF, I, R)
  refine r_iload_n dX6_startOf_0 rfl ?_
  refine r_iflt (tgt := 19) dX6_startOf_1 (by decide) (by omega) (fun h1 => ?_) (fun h1 => ?_)
  · refine r_iconst dX6_startOf_19 ?_
    refine q_iretF dX6_startOf_20 rfl ?_
    first | exact (if_pos (by omega)).symm | exact (if_neg (by omega)).symm
  · refine r_iload_n dX6_startOf_4 rfl ?_
    refine r_bipush dX6_startOf_5 (by decide) ?_
    refine r_icmpge (tgt := 19) dX6_startOf_7 (by decide) (by omega) (by omega) (fun h7 => ?_) (fun h7 => ?_)
    · refine r_iconst dX6_startOf_19 ?_
      refine q_iretF dX6_startOf_20 rfl ?_
      first | exact (if_pos (by omega)).symm | exact (if_neg (by omega)).symm
    · refine r_aload_n dX6_startOf_10 rfl ?_
      refine q_getR fl_X6_9 dX6_startOf_11 sf_35 (ro_35_2 hRO) ?_
      refine r_iload_n dX6_startOf_14 rfl ?_
      refine q_iald dX6_startOf_15 sf_36 (by omega) ?_
      refine r_goto (tgt := 20) dX6_startOf_16 (by decide) ?_
      refine q_iretF dX6_startOf_20 rfl ?_
      first | exact (if_pos (by omega)).symm | exact (if_neg (by omega)).symm
set_option maxHeartbeats 4000000 in
set_option maxRecDepth 100000 in
theorem c_lengthOf (I : Mem) (R : RMem) (hRO : RefOk R) (w : Int) (hw : -2147483648 ≤ w ∧ w ≤ 2147483647) : CC 0 0 0 yX6_lengthOf cX6_lengthOf 2 (some .int) [.inr (some 35), .inl (w)] (290, ShF, I, R) (PF (if 0 ≤ w ∧ w < 80 then I 37 w else 0) I R) := by
  refine CC_of (own := RX6) (ini := false) (by decide +kernel) rfl (fun h => absurd h (by decide)) (Nat.le_of_ble_eq_true rfl) ?_
  show WW cX6_lengthOf RX6 2 (some .int) false 0 0 0 (PF (if 0 ≤ w ∧ w < 80 then I 37 w else 0) I R) 0 0 0 [some (.inr (some 35)), some (.inl (w))] [] (290, ShF, I, R)
  refine r_iload_n dX6_lengthOf_0 rfl ?_
  refine r_iflt (tgt := 19) dX6_lengthOf_1 (by decide) (by omega) (fun h1 => ?_) (fun h1 => ?_)
  · refine r_iconst dX6_lengthOf_19 ?_
    refine q_iretF dX6_lengthOf_20 rfl ?_
    first | exact (if_pos (by omega)).symm | exact (if_neg (by omega)).symm
  · refine r_iload_n dX6_lengthOf_4 rfl ?_
    refine r_bipush dX6_lengthOf_5 (by decide) ?_
    refine r_icmpge (tgt := 19) dX6_lengthOf_7 (by decide) (by omega) (by omega) (fun h7 => ?_) (fun h7 => ?_)
    · refine r_iconst dX6_lengthOf_19 ?_
      refine q_iretF dX6_lengthOf_20 rfl ?_
      first | exact (if_pos (by omega)).symm | exact (if_neg (by omega)).symm
    · refine r_aload_n dX6_lengthOf_10 rfl ?_
      refine q_getR fl_X6_15 dX6_lengthOf_11 sf_35 (ro_35_3 hRO) ?_
      refine r_iload_n dX6_lengthOf_14 rfl ?_
      refine q_iald dX6_lengthOf_15 sf_37 (by omega) ?_
      refine r_goto (tgt := 20) dX6_lengthOf_16 (by decide) ?_
      refine q_iretF dX6_lengthOf_20 rfl ?_
      first | exact (if_pos (by omega)).symm | exact (if_neg (by omega)).symm
set_option maxHeartbeats 4000000 in
set_option maxRecDepth 100000 in
theorem c_pointOf (I : Mem) (R : RMem) (hRO : RefOk R) (w : Int) (hw : -2147483648 ≤ w ∧ w ≤ 2147483647) : CC 0 0 0 yX6_pointOf cX6_pointOf 2 (some .int) [.inr (some 35), .inl (w)] (290, ShF, I, R) (PF (if 0 ≤ w ∧ w < 80 then I 38 w else -1) I R) := by
  refine CC_of (own := RX6) (ini := false) (by decide +kernel) rfl (fun h => absurd h (by decide)) (Nat.le_of_ble_eq_true rfl) ?_
  show WW cX6_pointOf RX6 2 (some .int) false 0 0 0 (PF (if 0 ≤ w ∧ w < 80 then I 38 w else -1) I R) 0 0 0 [some (.inr (some 35)), some (.inl (w))] [] (290, ShF, I, R)
  refine r_iload_n dX6_pointOf_0 rfl ?_
  refine r_iflt (tgt := 19) dX6_pointOf_1 (by decide) (by omega) (fun h1 => ?_) (fun h1 => ?_)
  · refine r_iconst dX6_pointOf_19 ?_
    refine q_iretF dX6_pointOf_20 rfl ?_
    first | exact (if_pos (by omega)).symm | exact (if_neg (by omega)).symm
  · refine r_iload_n dX6_pointOf_4 rfl ?_
    refine r_bipush dX6_pointOf_5 (by decide) ?_
    refine r_icmpge (tgt := 19) dX6_pointOf_7 (by decide) (by omega) (by omega) (fun h7 => ?_) (fun h7 => ?_)
    · refine r_iconst dX6_pointOf_19 ?_
      refine q_iretF dX6_pointOf_20 rfl ?_
      first | exact (if_pos (by omega)).symm | exact (if_neg (by omega)).symm
    · refine r_aload_n dX6_pointOf_10 rfl ?_
      refine q_getR fl_X6_18 dX6_pointOf_11 sf_35 (ro_35_4 hRO) ?_
      refine r_iload_n dX6_pointOf_14 rfl ?_
      refine q_iald dX6_pointOf_15 sf_38 (by omega) ?_
      refine r_goto (tgt := 20) dX6_pointOf_16 (by decide) ?_
      refine q_iretF dX6_pointOf_20 rfl ?_
      first | exact (if_pos (by omega)).symm | exact (if_neg (by omega)).symm
set_option maxHeartbeats 4000000 in
set_option maxRecDepth 100000 in
theorem c_take (I : Mem) (R : RMem) (hRO : RefOk R) {a a1 : Nat} (hs : ParAt R a a1) (hap : ¬ (35 ≤ a ∧ a ≤ 39) ∧ ¬ (35 ≤ a1 ∧ a1 ≤ 39)) (v : YV) (hv : WfP v) (hP : AtP I a a1 v) : CC 3 0 0 yX6_take cX6_take 6 none [.inr (some 35), .inr (some (a))] (290, ShF, I, R) (PW R (fun I1 => TA (wdT v) I1 ∧ ∀ (x : Nat) (j : Int), ¬ (35 ≤ x ∧ x ≤ 39) → I1 x j = I x j)) := by
  have hl := hv.2.1
  have hlen := hP.2.1
  have hloop : ∀ (n : Nat) (i iw : Int) (u4 u5 : Option MV) (I1 : Mem), 80 < i + n → (0 ≤ i ∧ i ≤ v.2.1) → iw = (tkT v.2.2 i.toNat).1 → TA (tkT v.2.2 i.toNat) I1 → (∀ (x : Nat) (j : Int), ¬ (35 ≤ x ∧ x ≤ 39) → I1 x j = I x j) → WW cX6_take RX6 6 none false 3 0 0 (PW R (fun I1 => TA (wdT v) I1 ∧ ∀ (x : Nat) (j : Int), ¬ (35 ≤ x ∧ x ≤ 39) → I1 x j = I x j)) 0 0 14 [some (.inr (some 35)), some (.inr (some (a))), some (.inl (iw)), some (.inl (i)), u4, u5] [] (290, ShF, I1, R) := by
    intro n
    induction n with
    | zero => intros; exfalso; omega
    | succ n ih =>
      intro i iw u4 u5 I1 g1 g2 g3 g4 g5
      refine r_iload_n dX6_take_14 rfl ?_
      refine r_aload_n dX6_take_15 rfl ?_
      have hla : I1 a 1 = v.2.1 := (g5 _ _ hap.1).trans hlen
      have hTI : TIT v.2.2 i (tkT v.2.2 i.toNat) := by
        have h := tkT_ok v.2.2 i.toNat
        rw [show ((i.toNat : Nat) : Int) = i by omega] at h
        exact h
      have hst : tkT v.2.2 (i + 1).toNat = tkS v.2.2 i (tkT v.2.2 i.toNat) := by
        rw [show (i + 1).toNat = i.toNat + 1 by omega]
        show tkS v.2.2 ((i.toNat : Nat) : Int) _ = _
        rw [show ((i.toNat : Nat) : Int) = i by omega]
      have hiw := hTI.iw
      have hnw : 0 ≤ (tkT v.2.2 i.toNat).2.1 ∧ (tkT v.2.2 i.toNat).2.1 ≤ i := by obtain ⟨fs, h1, _⟩ := hTI; exact h1
      have hnf : 0 ≤ (tkT v.2.2 i.toNat).2.2.1 ∧ (tkT v.2.2 i.toNat).2.2.1 ≤ i := by obtain ⟨fs, _, h2, _⟩ := hTI; exact h2
      have hend : i = v.2.1 → tkT v.2.2 i.toNat = tkT v.2.2 v.2.1.toNat := fun e => by rw [e]
      generalize hTg : tkT v.2.2 i.toNat = T at g4 hTI hst hiw hnw hnf hend g3 ⊢
      obtain ⟨n1, n0, n3, n4⟩ := g4
      refine q_getI fl_X6_31 dX6_take_16 hs.1 ?_
      rw [hla]
      refine r_icmpge (tgt := 109) dX6_take_19 (by decide) (by omega) (by omega) (fun h19 => ?_) (fun h19 => ?_)
      · refine r_aload_n dX6_take_109 rfl ?_
        refine q_callVW lk_X6_47 dX6_take_110 (c_endField I1 R hRO (by omega)) (by decide) sf_35 rfl rfl (Nat.le_of_ble_eq_true rfl) (by decide) (fun I5 hI5 => ?_)
        refine q_vretW dX6_take_113 rfl ?_
        subst hI5
        have hil : i = v.2.1 := by omega
        have hTe := hend hil
        refine ⟨⟨?_, ?_, fun w w1 w2 => ?_, fun f f1 f2 => ?_⟩, fun x j hx => by rw [u2_n (by omega), u2_n (by omega)]; exact g5 x j hx⟩
        · show _ = (tkT v.2.2 v.2.1.toNat).2.1
          rw [← hTe, u2_n (Or.inr (by decide)), u2_n (Or.inl (by decide))]
          exact n1
        · show _ = (tkT v.2.2 v.2.1.toNat).2.2.1 + 1
          rw [← hTe, u2_s, n0]
        · have w2 : w < (tkT v.2.2 v.2.1.toNat).2.1 := w2
          show _ = (tkT v.2.2 v.2.1.toNat).2.2.2.1 w ∧ _ = (tkT v.2.2 v.2.1.toNat).2.2.2.2.1 w ∧ _ = (tkT v.2.2 v.2.1.toNat).2.2.2.2.2.1 w
          rw [← hTe] at w2 ⊢
          rw [u2_n (Or.inl (by decide)), u2_n (Or.inl (by decide)), u2_n (Or.inl (by decide)), u2_n (Or.inl (by decide)), u2_n (Or.inl (by decide)), u2_n (Or.inl (by decide))]
          exact n3 w w1 w2
        · have f2 : f < (tkT v.2.2 v.2.1.toNat).2.2.1 + 1 := f2
          show _ = upF (tkT v.2.2 v.2.1.toNat).2.2.2.2.2.2 (tkT v.2.2 v.2.1.toNat).2.2.1 (tkT v.2.2 v.2.1.toNat).2.1 f
          rw [← hTe] at f2 ⊢
          rw [u2_n (Or.inl (by decide)), show u2 I1 39 (I1 35 0) (I1 35 1) 39 f = upF (I1 39) (I1 35 0) (I1 35 1) f from congrFun (u2_rowU _ _ _ _) f, n0, n1]
          exact upF_ag (n := T.2.2.1) n4 ⟨f1, by omega⟩
      · refine r_iload_n dX6_take_22 rfl ?_
        refine r_bipush dX6_take_23 (by decide) ?_
        refine r_icmpge (tgt := 109) dX6_take_25 (by decide) (by omega) (by omega) (fun h25 => ?_) (fun h25 => ?_)
        · refine r_aload_n dX6_take_109 rfl ?_
          refine q_callVW lk_X6_47 dX6_take_110 (c_endField I1 R hRO (by omega)) (by decide) sf_35 rfl rfl (Nat.le_of_ble_eq_true rfl) (by decide) (fun I5 hI5 => ?_)
          refine q_vretW dX6_take_113 rfl ?_
          subst hI5
          have hil : i = v.2.1 := by omega
          have hTe := hend hil
          refine ⟨⟨?_, ?_, fun w w1 w2 => ?_, fun f f1 f2 => ?_⟩, fun x j hx => by rw [u2_n (by omega), u2_n (by omega)]; exact g5 x j hx⟩
          · show _ = (tkT v.2.2 v.2.1.toNat).2.1
            rw [← hTe, u2_n (Or.inr (by decide)), u2_n (Or.inl (by decide))]
            exact n1
          · show _ = (tkT v.2.2 v.2.1.toNat).2.2.1 + 1
            rw [← hTe, u2_s, n0]
          · have w2 : w < (tkT v.2.2 v.2.1.toNat).2.1 := w2
            show _ = (tkT v.2.2 v.2.1.toNat).2.2.2.1 w ∧ _ = (tkT v.2.2 v.2.1.toNat).2.2.2.2.1 w ∧ _ = (tkT v.2.2 v.2.1.toNat).2.2.2.2.2.1 w
            rw [← hTe] at w2 ⊢
            rw [u2_n (Or.inl (by decide)), u2_n (Or.inl (by decide)), u2_n (Or.inl (by decide)), u2_n (Or.inl (by decide)), u2_n (Or.inl (by decide)), u2_n (Or.inl (by decide))]
            exact n3 w w1 w2
          · have f2 : f < (tkT v.2.2 v.2.1.toNat).2.2.1 + 1 := f2
            show _ = upF (tkT v.2.2 v.2.1.toNat).2.2.2.2.2.2 (tkT v.2.2 v.2.1.toNat).2.2.1 (tkT v.2.2 v.2.1.toNat).2.1 f
            rw [← hTe] at f2 ⊢
            rw [u2_n (Or.inl (by decide)), show u2 I1 39 (I1 35 0) (I1 35 1) 39 f = upF (I1 39) (I1 35 0) (I1 35 1) f from congrFun (u2_rowU _ _ _ _) f, n0, n1]
            exact upF_ag (n := T.2.2.1) n4 ⟨f1, by omega⟩
        · refine r_aload_n dX6_take_28 rfl ?_
          refine r_iload_n dX6_take_29 rfl ?_
          refine q_callVF lk_X6_36 dX6_take_30 (c_characterAt I1 R hs i (by omega) (by omega)) (by decide) hs.1 rfl rfl (Nat.le_of_ble_eq_true rfl) (by decide) ?_
          have hch : I1 a1 i = v.2.2 i := (g5 _ _ hap.2).trans (hP.2.2 i (by omega) (by omega))
          rw [if_pos ⟨by omega, by rw [hla]; omega⟩, hch]
          have hok := hv.2.2 i (by omega) (by omega)
          unfold okc at hok
          refine r_istore dX6_take_33 (by decide) ?_
          dsimp only [lset]
          refine r_iload dX6_take_35 rfl ?_
          refine r_bipush dX6_take_37 (by decide) ?_
          refine r_icmpeq (tgt := 49) dX6_take_39 (by decide) (by omega) (by omega) (fun h39 => ?_) (fun h39 => ?_)
          · refine r_iconst dX6_take_49 ?_
            refine r_goto (tgt := 54) dX6_take_50 (by decide) ?_
            refine r_istore dX6_take_54 (by decide) ?_
            dsimp only [lset]
            refine r_iload dX6_take_56 rfl ?_
            refine r_ifne (tgt := 70) dX6_take_58 (by decide) (by decide) (fun _ => ?_) (fun h => absurd h (by decide))
            refine r_iload dX6_take_70 rfl ?_
            refine r_ifne (tgt := 81) dX6_take_72 (by decide) (by decide) (fun _ => ?_) (fun h => absurd h (by decide))
            refine r_iload dX6_take_81 rfl ?_
            refine r_bipush dX6_take_83 (by decide) ?_
            refine r_icmpne (tgt := 92) dX6_take_85 (by decide) (by omega) (by omega) (fun h85 => ?_) (fun h85 => ?_)
            · refine r_iload dX6_take_92 rfl ?_
              refine r_ifne (tgt := 101) dX6_take_94 (by decide) (by decide) (fun _ => ?_) (fun h => absurd h (by decide))
              refine r_iconst dX6_take_101 ?_
              refine r_istore_n dX6_take_102 (by decide) ?_
              dsimp only [lset]
              refine r_iinc dX6_take_103 rfl (by decide) ?_
              dsimp only [lset]
              refine r_goto (tgt := 14) dX6_take_106 (by decide) ?_
              have es : tkS v.2.2 i T = (0, T.2) := by
                unfold tkS
                rw [if_pos (by omega)]
              refine ih (i + 1) 0 _ _ I1 (by omega) (by omega) (by rw [hst, es]) ?_ g5
              rw [hst, es]
              exact ⟨n1, n0, n3, n4⟩
            · exfalso
              omega
          · refine r_iload dX6_take_42 rfl ?_
            refine r_bipush dX6_take_44 (by decide) ?_
            refine r_icmpne (tgt := 53) dX6_take_46 (by decide) (by omega) (by omega) (fun h46 => ?_) (fun h46 => ?_)
            · refine r_iconst dX6_take_53 ?_
              refine r_istore dX6_take_54 (by decide) ?_
              dsimp only [lset]
              refine r_iload dX6_take_56 rfl ?_
              refine r_ifne (tgt := 70) dX6_take_58 (by decide) (by decide) (fun h => absurd h (by decide)) (fun _ => ?_)
              refine r_iload_n dX6_take_61 rfl ?_
              refine r_ifne (tgt := 70) dX6_take_62 (by decide) (by omega) (fun h62 => ?_) (fun h62 => ?_)
              · refine r_iload dX6_take_70 rfl ?_
                refine r_ifne (tgt := 81) dX6_take_72 (by decide) (by decide) (fun h => absurd h (by decide)) (fun _ => ?_)
                refine r_aload_n dX6_take_75 rfl ?_
                refine r_iload dX6_take_76 rfl ?_
                have hpt : -1 ≤ I1 38 (I1 35 1 - 1) ∧ I1 38 (I1 35 1 - 1) ≤ 100 ∧ 1 ≤ I1 35 1 := by
                  have hz := fF_z hTI T.2.2.1 (by omega) (Int.le_refl _)
                  obtain ⟨fs, h1, h2, h3, h4, h5, h6, h7, h8⟩ := hTI
                  have h9 : 0 < T.2.1 := by rcases h6 with h | h <;> omega
                  have h10 := h7 (T.2.1 - 1) (by omega) (by omega)
                  have h11 := (h5.2.2.2 (T.2.1 - 1) (by rcases h6 with h | h <;> omega) (by omega)).1
                  rw [n1, (n3 (T.2.1 - 1) (by omega) (by omega)).2.2]
                  rcases h10 with h | h <;> omega
                refine q_callVW lk_X6_44 dX6_take_78 (c_growWord I1 R hRO (v.2.2 i) (by omega) (by omega) (by omega)) (by decide) sf_35 rfl rfl (Nat.le_of_ble_eq_true rfl) (by decide) (fun I3 hI3 => ?_)
                refine r_iload dX6_take_81 rfl ?_
                refine r_bipush dX6_take_83 (by decide) ?_
                refine r_icmpne (tgt := 92) dX6_take_85 (by decide) (by omega) (by omega) (fun h85 => ?_) (fun h85 => ?_)
                · refine r_iload dX6_take_92 rfl ?_
                  refine r_ifne (tgt := 101) dX6_take_94 (by decide) (by decide) (fun h => absurd h (by decide)) (fun _ => ?_)
                  refine r_iconst dX6_take_97 ?_
                  refine r_goto (tgt := 102) dX6_take_98 (by decide) ?_
                  refine r_istore_n dX6_take_102 (by decide) ?_
                  dsimp only [lset]
                  refine r_iinc dX6_take_103 rfl (by decide) ?_
                  dsimp only [lset]
                  refine r_goto (tgt := 14) dX6_take_106 (by decide) ?_
                  subst hI3
                  have hlast := n3 (T.2.1 - 1) (by omega) (by omega)
                  have es : tkS v.2.2 i T = (1, T.2.1, T.2.2.1, T.2.2.2.1, upF T.2.2.2.2.1 (T.2.1 - 1) (T.2.2.2.2.1 (T.2.1 - 1) + 1), upF T.2.2.2.2.2.1 (T.2.1 - 1) (if v.2.2 i = 46 ∧ T.2.2.2.2.2.1 (T.2.1 - 1) = -1 then T.2.2.2.2.1 (T.2.1 - 1) else T.2.2.2.2.2.1 (T.2.1 - 1)), T.2.2.2.2.2.2) := by
                    unfold tkS
                    rw [if_neg (by omega), if_neg (by omega), if_neg (by omega)]
                  refine ih (i + 1) 1 _ _ _ (by omega) (by omega) (by rw [hst, es]) ?_ (fun x j hx => ?_)
                  · rw [hst, es, n1]
                    have k37 : gw I1 (T.2.1 - 1) (v.2.2 i) 37 = upF (I1 37) (T.2.1 - 1) (T.2.2.2.2.1 (T.2.1 - 1) + 1) := by
                      unfold gw
                      rw [u2_rowU, hlast.2.1]
                      split
                      · rw [u2_rown _ _ _ (by decide)]
                      · rfl
                    have k38 : gw I1 (T.2.1 - 1) (v.2.2 i) 38 = upF (I1 38) (T.2.1 - 1) (if v.2.2 i = 46 ∧ T.2.2.2.2.2.1 (T.2.1 - 1) = -1 then T.2.2.2.2.1 (T.2.1 - 1) else T.2.2.2.2.2.1 (T.2.1 - 1)) := by
                      unfold gw
                      rw [u2_rown _ _ _ (by decide), hlast.2.2, hlast.2.1]
                      split
                      · rw [u2_rowU]
                      · funext q
                        show I1 38 q = if q = T.2.1 - 1 then T.2.2.2.2.2.1 (T.2.1 - 1) else I1 38 q
                        split
                        · next h => rw [h]; exact hlast.2.2
                        · rfl
                    have kx : ∀ (x : Nat) (q : Int), x ≠ 37 → x ≠ 38 → gw I1 (T.2.1 - 1) (v.2.2 i) x q = I1 x q := fun x q h1 h2 => by
                      unfold gw
                      rw [u2_n (Or.inl h1)]
                      split
                      · rw [u2_n (Or.inl h2)]
                      · rfl
                    refine ⟨?_, ?_, fun w w1 w2 => ?_, fun f f1 f2 => ?_⟩
                    · rw [kx _ _ (by decide) (by decide)]; exact n1
                    · rw [kx _ _ (by decide) (by decide)]; exact n0
                    · have w2 : w < T.2.1 := w2
                      rw [kx _ _ (by decide) (by decide), k37, k38]
                      exact ⟨(n3 w w1 w2).1, upF_ag (n := T.2.1) (fun w a b => (n3 w a b).2.1) ⟨w1, by omega⟩, upF_ag (n := T.2.1) (fun w a b => (n3 w a b).2.2) ⟨w1, by omega⟩⟩
                    · rw [kx _ _ (by decide) (by decide)]; exact n4 f f1 f2
                  · unfold gw
                    rw [u2_n (by omega)]
                    split
                    · rw [u2_n (by omega)]; exact g5 x j hx
                    · exact g5 x j hx
                · exfalso
                  omega
              · refine r_aload_n dX6_take_65 rfl ?_
                refine r_iload_n dX6_take_66 rfl ?_
                refine q_callVW lk_X6_40 dX6_take_67 (c_startWord I1 R hRO i (by omega)) (by decide) sf_35 rfl rfl (Nat.le_of_ble_eq_true rfl) (by decide) (fun I2 hI2 => ?_)
                have e1 : I2 35 1 = I1 35 1 + 1 := by rw [hI2, u2_s]
                have e2 : I2 38 (I1 35 1) = -1 := by rw [hI2, u2_n (Or.inl (by decide)), u2_s]
                have e3 : I2 38 (I2 35 1 - 1) = -1 := by rw [e1, show I1 35 1 + 1 - 1 = I1 35 1 by omega]; exact e2
                refine r_iload dX6_take_70 rfl ?_
                refine r_ifne (tgt := 81) dX6_take_72 (by decide) (by decide) (fun h => absurd h (by decide)) (fun _ => ?_)
                refine r_aload_n dX6_take_75 rfl ?_
                refine r_iload dX6_take_76 rfl ?_
                refine q_callVW lk_X6_44 dX6_take_78 (c_growWord I2 R hRO (v.2.2 i) (by omega) (by omega) (by omega)) (by decide) sf_35 rfl rfl (Nat.le_of_ble_eq_true rfl) (by decide) (fun I3 hI3 => ?_)
                refine r_iload dX6_take_81 rfl ?_
                refine r_bipush dX6_take_83 (by decide) ?_
                refine r_icmpne (tgt := 92) dX6_take_85 (by decide) (by omega) (by omega) (fun h85 => ?_) (fun h85 => ?_)
                · refine r_iload dX6_take_92 rfl ?_
                  refine r_ifne (tgt := 101) dX6_take_94 (by decide) (by decide) (fun h => absurd h (by decide)) (fun _ => ?_)
                  refine r_iconst dX6_take_97 ?_
                  refine r_goto (tgt := 102) dX6_take_98 (by decide) ?_
                  refine r_istore_n dX6_take_102 (by decide) ?_
                  dsimp only [lset]
                  refine r_iinc dX6_take_103 rfl (by decide) ?_
                  dsimp only [lset]
                  refine r_goto (tgt := 14) dX6_take_106 (by decide) ?_
                  subst hI3
                  have hiw0 : T.1 = 0 := by omega
                  have es : tkS v.2.2 i T = (1, T.2.1 + 1, T.2.2.1, upF T.2.2.2.1 T.2.1 i, upF (upF T.2.2.2.2.1 T.2.1 0) T.2.1 1, upF (upF T.2.2.2.2.2.1 T.2.1 (-1)) T.2.1 (if v.2.2 i = 46 then 0 else -1), T.2.2.2.2.2.2) := by
                    unfold tkS
                    rw [if_neg (by omega), if_neg (by omega), if_pos hiw0]
                  refine ih (i + 1) 1 _ _ _ (by omega) (by omega) (by rw [hst, es]) ?_ (fun x j hx => ?_)
                  · rw [hst, es, e1, show I1 35 1 + 1 - 1 = I1 35 1 by omega]
                    have k37 : gw I2 (I1 35 1) (v.2.2 i) 37 = upF (upF (I1 37) (I1 35 1) 0) (I1 35 1) 1 := by
                      unfold gw
                      have e5 : I2 37 (I1 35 1) = 0 := by rw [hI2, u2_n (Or.inl (by decide)), u2_n (Or.inl (by decide)), u2_s]
                      have e6 : I2 37 = upF (I1 37) (I1 35 1) 0 := by rw [hI2, u2_rown _ _ _ (by decide), u2_rown _ _ _ (by decide), u2_rowU, u2_rown _ _ _ (by decide)]
                      rw [u2_rowU, e5]
                      split
                      · rw [u2_rown _ _ _ (by decide), e6]; rfl
                      · rw [e6]; rfl
                    have k38 : gw I2 (I1 35 1) (v.2.2 i) 38 = upF (upF (I1 38) (I1 35 1) (-1)) (I1 35 1) (if v.2.2 i = 46 then 0 else -1) := by
                      unfold gw
                      have e5 : I2 37 (I1 35 1) = 0 := by rw [hI2, u2_n (Or.inl (by decide)), u2_n (Or.inl (by decide)), u2_s]
                      have e6 : I2 38 = upF (I1 38) (I1 35 1) (-1) := by rw [hI2, u2_rown _ _ _ (by decide), u2_rowU, u2_rown _ _ _ (by decide), u2_rown _ _ _ (by decide)]
                      rw [u2_rown _ _ _ (by decide)]
                      by_cases h46 : v.2.2 i = 46
                      · rw [if_pos ⟨h46, e2⟩, u2_rowU, e6, e5, if_pos h46]
                      · rw [if_neg (fun q => h46 q.1), e6, if_neg h46]
                        funext q
                        show (if q = I1 35 1 then (-1 : Int) else I1 38 q) = if q = I1 35 1 then -1 else if q = I1 35 1 then -1 else I1 38 q
                        split <;> rfl
                    have kx : ∀ (x : Nat) (q : Int), x ≠ 37 → x ≠ 38 → gw I2 (I1 35 1) (v.2.2 i) x q = I2 x q := fun x q h1 h2 => by
                      unfold gw
                      rw [u2_n (Or.inl h1)]
                      split
                      · rw [u2_n (Or.inl h2)]
                      · rfl
                    have k36 : gw I2 (I1 35 1) (v.2.2 i) 36 = upF (I1 36) (I1 35 1) i := by
                      rw [show gw I2 (I1 35 1) (v.2.2 i) 36 = I2 36 from funext fun q => kx _ q (by decide) (by decide), hI2, u2_rown _ _ _ (by decide), u2_rown _ _ _ (by decide), u2_rown _ _ _ (by decide), u2_rowU]
                    have k39 : gw I2 (I1 35 1) (v.2.2 i) 39 = I1 39 := by
                      rw [show gw I2 (I1 35 1) (v.2.2 i) 39 = I2 39 from funext fun q => kx _ q (by decide) (by decide), hI2, u2_rown _ _ _ (by decide), u2_rown _ _ _ (by decide), u2_rown _ _ _ (by decide), u2_rown _ _ _ (by decide)]
                    refine ⟨?_, ?_, fun w w1 w2 => ?_, fun f f1 f2 => ?_⟩
                    · rw [kx _ _ (by decide) (by decide), e1, n1]
                    · rw [kx _ _ (by decide) (by decide), hI2, u2_n (Or.inr (by decide)), u2_n (Or.inl (by decide)), u2_n (Or.inl (by decide)), u2_n (Or.inl (by decide))]; exact n0
                    · have w2 : w < T.2.1 + 1 := w2
                      rw [k36, k37, k38, n1]
                      exact ⟨upF_ag (n := T.2.1) (fun w a b => (n3 w a b).1) ⟨w1, by omega⟩, upF_ag (n := T.2.1 + 1) (fun w a b => upF_ag (n := T.2.1) (fun w a b => (n3 w a b).2.1) ⟨a, by omega⟩) ⟨w1, by omega⟩, upF_ag (n := T.2.1 + 1) (fun w a b => upF_ag (n := T.2.1) (fun w a b => (n3 w a b).2.2) ⟨a, by omega⟩) ⟨w1, by omega⟩⟩
                    · rw [k39]; exact n4 f f1 f2
                  · have e9 : I2 x j = I x j := by rw [hI2, u2_n (by omega), u2_n (by omega), u2_n (by omega), u2_n (by omega)]; exact g5 x j hx
                    unfold gw
                    rw [u2_n (by omega)]
                    split
                    · rw [u2_n (by omega)]; exact e9
                    · exact e9
                · exfalso
                  omega
            · refine r_iconst dX6_take_49 ?_
              refine r_goto (tgt := 54) dX6_take_50 (by decide) ?_
              refine r_istore dX6_take_54 (by decide) ?_
              dsimp only [lset]
              refine r_iload dX6_take_56 rfl ?_
              refine r_ifne (tgt := 70) dX6_take_58 (by decide) (by decide) (fun _ => ?_) (fun h => absurd h (by decide))
              refine r_iload dX6_take_70 rfl ?_
              refine r_ifne (tgt := 81) dX6_take_72 (by decide) (by decide) (fun _ => ?_) (fun h => absurd h (by decide))
              refine r_iload dX6_take_81 rfl ?_
              refine r_bipush dX6_take_83 (by decide) ?_
              refine r_icmpne (tgt := 92) dX6_take_85 (by decide) (by omega) (by omega) (fun h85 => ?_) (fun h85 => ?_)
              · exfalso
                omega
              · refine r_aload_n dX6_take_88 rfl ?_
                refine q_callVW lk_X6_47 dX6_take_89 (c_endField I1 R hRO (by omega)) (by decide) sf_35 rfl rfl (Nat.le_of_ble_eq_true rfl) (by decide) (fun I4 hI4 => ?_)
                refine r_iload dX6_take_92 rfl ?_
                refine r_ifne (tgt := 101) dX6_take_94 (by decide) (by decide) (fun _ => ?_) (fun h => absurd h (by decide))
                refine r_iconst dX6_take_101 ?_
                refine r_istore_n dX6_take_102 (by decide) ?_
                dsimp only [lset]
                refine r_iinc dX6_take_103 rfl (by decide) ?_
                dsimp only [lset]
                refine r_goto (tgt := 14) dX6_take_106 (by decide) ?_
                subst hI4
                have es : tkS v.2.2 i T = (0, T.2.1, T.2.2.1 + 1, T.2.2.2.1, T.2.2.2.2.1, T.2.2.2.2.2.1, upF T.2.2.2.2.2.2 T.2.2.1 T.2.1) := by
                  unfold tkS
                  rw [if_neg (by omega), if_pos (by omega)]
                refine ih (i + 1) 0 _ _ _ (by omega) (by omega) (by rw [hst, es]) ?_ (fun x j hx => by rw [u2_n (by omega), u2_n (by omega)]; exact g5 x j hx)
                rw [hst, es]
                refine ⟨by rw [u2_n (Or.inr (by decide)), u2_n (Or.inl (by decide))]; exact n1, by rw [u2_s, n0], fun w w1 w2 => ?_, fun f f1 f2 => ?_⟩
                · rw [u2_n (Or.inl (by decide)), u2_n (Or.inl (by decide)), u2_n (Or.inl (by decide)), u2_n (Or.inl (by decide)), u2_n (Or.inl (by decide)), u2_n (Or.inl (by decide))]
                  exact n3 w w1 w2
                · have f2 : f < T.2.2.1 + 1 := f2
                  rw [u2_n (Or.inl (by decide)), show u2 I1 39 (I1 35 0) (I1 35 1) 39 f = upF (I1 39) (I1 35 0) (I1 35 1) f from congrFun (u2_rowU _ _ _ _) f, n0, n1]
                  exact upF_ag (n := T.2.2.1) n4 ⟨f1, by omega⟩
  refine CC_of (own := RX6) (ini := false) (by decide +kernel) rfl (fun h => absurd h (by decide)) (Nat.le_of_ble_eq_true rfl) ?_
  show WW cX6_take RX6 6 none false 3 0 0 (PW R (fun I1 => TA (wdT v) I1 ∧ ∀ (x : Nat) (j : Int), ¬ (35 ≤ x ∧ x ≤ 39) → I1 x j = I x j)) 0 0 0 [some (.inr (some 35)), some (.inr (some (a))), none, none, none, none] [] (290, ShF, I, R)
  refine r_aload_n dX6_take_0 rfl ?_
  refine r_iconst dX6_take_1 ?_
  refine q_putI fl_X6_24 dX6_take_2 sf_35 ?_
  refine r_aload_n dX6_take_5 rfl ?_
  refine r_iconst dX6_take_6 ?_
  refine q_putI fl_X6_28 dX6_take_7 sf_35 ?_
  refine r_iconst dX6_take_10 ?_
  refine r_istore_n dX6_take_11 (by decide) ?_
  dsimp only [lset]
  refine r_iconst dX6_take_12 ?_
  refine r_istore_n dX6_take_13 (by decide) ?_
  dsimp only [lset]
  have k0 : ∀ (x : Nat) (j : Int), ¬ (x = 35) → u2 (u2 I 35 0 0) 35 1 0 x j = I x j := fun x j hx => by rw [u2_n (Or.inl hx), u2_n (Or.inl hx)]
  exact hloop 81 0 0 _ _ _ (by omega) (by omega) rfl ⟨u2_s, by rw [u2_n (Or.inr (by decide)), u2_s]; rfl, fun w w1 w2 => by have w2 : w < 0 := w2; omega, fun w w1 w2 => by have w2 : w < 0 := w2; omega⟩ (fun x j hx => k0 x j (by omega))
