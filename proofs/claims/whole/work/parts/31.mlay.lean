/-! the lines: the other object's picture, and its leaves -/
theorem pcAt_congr {P Q : Int → PcV} {r q : Int} : ∀ n : Nat, (∀ i : Int, 0 ≤ i → i < n → P i = Q i) → pcAt P r q n = pcAt Q r q n
  | 0, _ => rfl
  | n + 1, h => by
    have h1 := pcAt_congr (r := r) (q := q) n (fun i a b => h i a (by omega))
    show (if pcAt P r q n ≠ -1 then pcAt P r q n else if (P n).1 = r ∧ (P n).2.1 ≤ q ∧ q ≤ (P n).2.1 + (P n).2.2.1 - 1 then (n : Int) else -1) = (if pcAt Q r q n ≠ -1 then pcAt Q r q n else if (Q n).1 = r ∧ (Q n).2.1 ≤ q ∧ q ≤ (Q n).2.1 + (Q n).2.2.1 - 1 then (n : Int) else -1)
    rw [h1, h n (by omega) (by omega)]
theorem pcAt_no {P : Int → PcV} {r q : Int} : ∀ n : Nat, (∀ i : Int, 0 ≤ i → i < n → ¬ ((P i).1 = r ∧ (P i).2.1 ≤ q ∧ q ≤ (P i).2.1 + (P i).2.2.1 - 1)) → pcAt P r q n = -1
  | 0, _ => rfl
  | n + 1, h => by
    have h1 := pcAt_no n (fun i a b => h i a (by omega))
    show (if pcAt P r q n ≠ -1 then pcAt P r q n else if (P n).1 = r ∧ (P n).2.1 ≤ q ∧ q ≤ (P n).2.1 + (P n).2.2.1 - 1 then (n : Int) else -1) = -1
    rw [if_neg (by omega), if_neg (h n (by omega) (by omega))]
def whG (S : LSt) (r q : Int) : Int := if pcAt S.2.2.2.1 r q S.2.2.1.toNat = -1 then 0 else if (S.2.2.2.1 (pcAt S.2.2.2.1 r q S.2.2.1.toNat)).2.2.2.1 = 0 then 1 else 2
theorem free_at {W : Int} {S : LSt} {kr kp : Int} (h : Inv W S kr kp) {r q : Int} (hr : S.1 < r ∨ (r = S.1 ∧ S.2.1 ≤ q)) : pcAt S.2.2.2.1 r q S.2.2.1.toNat = -1 := by
  refine pcAt_no _ (fun i a b hc => ?_)
  have hi := h.2.2.2.1 i a (by have := h.2.2.1; omega)
  rcases hr with hr | hr
  · omega
  · have := hi.2.2.2.2 (by omega)
    omega
theorem free_wh {v : YV} {S : LSt} {r q : Int} (h : pcAt S.2.2.2.1 r q S.2.2.1.toNat = -1) : whG S r q = 0 ∧ chG v S r q = 32 := by
  unfold whG chG
  rw [if_pos h, if_pos h]
  exact ⟨rfl, rfl⟩
theorem seg_pc {W : Int} {S : LSt} {kr kp l d s : Int} (h : Inv W S kr kp) (r q : Int) : (S.1 = r ∧ S.2.1 ≤ q ∧ q < S.2.1 + l → pcAt (sSeg S l d s).2.2.2.1 r q (sSeg S l d s).2.2.1.toNat = S.2.2.1) ∧ (¬ (S.1 = r ∧ S.2.1 ≤ q ∧ q < S.2.1 + l) → pcAt (sSeg S l d s).2.2.2.1 r q (sSeg S l d s).2.2.1.toNat = pcAt S.2.2.2.1 r q S.2.2.1.toNat) := by
  have hn := h.2.2.1
  have e1 : pcAt (sSeg S l d s).2.2.2.1 r q S.2.2.1.toNat = pcAt S.2.2.2.1 r q S.2.2.1.toNat := pcAt_congr _ (fun i a b => if_neg (by omega))
  have e2 : pcAt (sSeg S l d s).2.2.2.1 r q (sSeg S l d s).2.2.1.toNat = (if pcAt S.2.2.2.1 r q S.2.2.1.toNat ≠ -1 then pcAt S.2.2.2.1 r q S.2.2.1.toNat else if S.1 = r ∧ S.2.1 ≤ q ∧ q ≤ S.2.1 + l - 1 then S.2.2.1 else -1) := by
    show pcAt (sSeg S l d s).2.2.2.1 r q (S.2.2.1 + 1).toNat = _
    rw [show (S.2.2.1 + 1).toNat = S.2.2.1.toNat + 1 by omega, ← e1]
    have e3 : (sSeg S l d s).2.2.2.1 ((S.2.2.1.toNat : Nat) : Int) = (S.1, S.2.1, l, d, s) := if_pos (by omega)
    show (if pcAt (sSeg S l d s).2.2.2.1 r q S.2.2.1.toNat ≠ -1 then pcAt (sSeg S l d s).2.2.2.1 r q S.2.2.1.toNat else if ((sSeg S l d s).2.2.2.1 ((S.2.2.1.toNat : Nat) : Int)).1 = r ∧ ((sSeg S l d s).2.2.2.1 ((S.2.2.1.toNat : Nat) : Int)).2.1 ≤ q ∧ q ≤ ((sSeg S l d s).2.2.2.1 ((S.2.2.1.toNat : Nat) : Int)).2.1 + ((sSeg S l d s).2.2.2.1 ((S.2.2.1.toNat : Nat) : Int)).2.2.1 - 1 then ((S.2.2.1.toNat : Nat) : Int) else -1) = _
    rw [e3, show ((S.2.2.1.toNat : Nat) : Int) = S.2.2.1 by omega]
  constructor
  · intro hc
    have hf := free_at h (r := r) (q := q) (Or.inr ⟨by omega, by omega⟩)
    rw [e2, hf, if_neg (by omega), if_pos (by omega)]
  · intro hc
    rw [e2]
    by_cases hf : pcAt S.2.2.2.1 r q S.2.2.1.toNat ≠ -1
    · rw [if_pos hf]
    · rw [if_neg hf, if_neg (by omega)]
      omega
theorem seg_cell {W : Int} {S : LSt} {kr kp l d s : Int} (v : YV) (h : Inv W S kr kp) (r q : Int) : (S.1 = r ∧ S.2.1 ≤ q ∧ q < S.2.1 + l → whG (sSeg S l d s) r q = (if d = 0 then 1 else 2) ∧ chG v (sSeg S l d s) r q = (if d = 0 then (if 0 ≤ s + q - S.2.1 ∧ s + q - S.2.1 < v.2.1 then v.2.2 (s + q - S.2.1) else -9) else ldC d)) ∧ (¬ (S.1 = r ∧ S.2.1 ≤ q ∧ q < S.2.1 + l) → whG (sSeg S l d s) r q = whG S r q ∧ chG v (sSeg S l d s) r q = chG v S r q) := by
  have hn := h.2.2.1
  have hp := seg_pc (l := l) (d := d) (s := s) h r q
  constructor
  · intro hc
    have h1 := hp.1 hc
    have e3 : (sSeg S l d s).2.2.2.1 S.2.2.1 = (S.1, S.2.1, l, d, s) := if_pos rfl
    unfold whG chG
    rw [h1, e3]
    exact ⟨if_neg (by omega), if_neg (by omega)⟩
  · intro hc
    have h1 := hp.2 hc
    have hb := pcAt_bd S.2.2.2.1 r q S.2.2.1.toNat
    have e3 : pcAt S.2.2.2.1 r q S.2.2.1.toNat ≠ -1 → (sSeg S l d s).2.2.2.1 (pcAt S.2.2.2.1 r q S.2.2.1.toNat) = S.2.2.2.1 (pcAt S.2.2.2.1 r q S.2.2.1.toNat) := fun hne => if_neg (by omega)
    unfold whG chG
    rw [h1]
    by_cases hf : pcAt S.2.2.2.1 r q S.2.2.1.toNat = -1
    · rw [if_pos hf, if_pos hf, if_pos hf, if_pos hf]
      exact ⟨rfl, rfl⟩
    · rw [e3 hf]
      exact ⟨rfl, rfl⟩
theorem fill_cell (v : YV) (cur : Int) (S : LSt) (r q : Int) : whG (sFill cur S) r q = whG S r q ∧ chG v (sFill cur S) r q = chG v S r q := by
  have e := sFill_same cur S
  unfold whG chG
  rw [e.2.2.1, e.2.2.2]
  exact ⟨rfl, rfl⟩
/-- what a layout reads -/
def MC (I : Mem) (W D p s : Int) (y v : YV) : Prop := (I 290 14 = W ∧ I 290 15 = s ∧ I 290 16 = 111 + 82 * p) ∧ (0 ≤ p ∧ p ≤ 7) ∧ (0 ≤ s ∧ s ≤ 3) ∧ I 291 1 = D ∧ MY (fun j => I 291 (3 + 27 * s + j)) y ∧ MP (fun j => I 291 (111 + 82 * p + j)) v
def MK (I1 I : Mem) : Prop := ∀ (x : Nat) (j : Int), ¬ (x = 290 ∧ (j = 12 ∨ j = 13)) → ¬ (295 ≤ x ∧ x ≤ 297) → I1 x j = I x j
theorem MK.rfl (I : Mem) : MK I I := fun _ _ _ _ => Eq.refl _
theorem MK.trans {I2 I1 I : Mem} (h : MK I2 I1) (h1 : MK I1 I) : MK I2 I := fun x j a b => (h x j a b).trans (h1 x j a b)
theorem MC.kept {I I1 : Mem} {W D p s : Int} {y v : YV} (h : MC I W D p s y v) (hk : MK I1 I) : MC I1 W D p s y v := by
  have e91 : I1 291 = I 291 := funext fun j => hk _ _ (by omega) (by omega)
  unfold MC
  rw [hk _ _ (by omega) (by omega), hk _ _ (by omega) (by omega), hk _ _ (by omega) (by omega), e91]
  exact h
def MG (I : Mem) (W : Int) (v : YV) (S : LSt) (k : Int) : Prop := I 290 12 = S.1 ∧ I 290 13 = S.2.1 ∧ (∀ q w : Int, 0 ≤ q → q < k → 0 ≤ w → w < 6 → I 297 (6 * q + w) = S.2.2.2.2 q w) ∧ ∀ r q : Int, 0 ≤ r → r ≤ S.1 → 0 ≤ q → q < W → I 296 (80 * r + q) = whG S r q ∧ I 295 (80 * r + q) = chG v S r q
def wrI (I : Mem) (c w : Int) : Mem := u2 (u2 (u2 I 295 (80 * I 290 12 + I 290 13) c) 296 (80 * I 290 12 + I 290 13) w) 290 13 (I 290 13 + 1)
theorem wrI_k (I : Mem) (c w : Int) : MK (wrI I c w) I := fun x j a b => by
  unfold wrI
  rw [u2_n (by omega), u2_n (by omega), u2_n (by omega)]
/-- one more character of a piece -/
theorem MG.seg {I : Mem} {W : Int} {v : YV} {S : LSt} {k kr kp j d s c w : Int} (h : MG I W v (sSeg S j d s) k) (hi : Inv W S kr kp) (hW : W ≤ 80) (hj : 0 ≤ j ∧ S.2.1 + j < W) (hc : c = (if d = 0 then (if 0 ≤ s + j ∧ s + j < v.2.1 then v.2.2 (s + j) else -9) else ldC d)) (hw : w = if d = 0 then 1 else 2) : MG (wrI I c w) W v (sSeg S (j + 1) d s) k := by
  have h1 : I 290 12 = S.1 := h.1
  have h2 : I 290 13 = S.2.1 + j := h.2.1
  have hc0 := hi.2.1
  refine ⟨?_, ?_, fun q z q1 q2 z1 z2 => ?_, fun r q r1 r2 q1 q2 => ?_⟩
  · unfold wrI
    rw [u2_n (Or.inr (by decide)), u2_n (Or.inl (by decide)), u2_n (Or.inl (by decide))]
    exact h1
  · unfold wrI
    rw [u2_s, h2]
    show S.2.1 + j + 1 = S.2.1 + (j + 1)
    omega
  · unfold wrI
    rw [u2_n (Or.inl (by decide)), u2_n (Or.inl (by decide)), u2_n (Or.inl (by decide))]
    exact h.2.2.1 q z q1 q2 z1 z2
  · have r2 : r ≤ S.1 := r2
    have h4 := h.2.2.2 r q r1 r2 q1 q2
    have hO := seg_cell (l := j) (d := d) (s := s) v hi r q
    have hN := seg_cell (l := j + 1) (d := d) (s := s) v hi r q
    unfold wrI
    have e6 : u2 (u2 (u2 I 295 (80 * I 290 12 + I 290 13) c) 296 (80 * I 290 12 + I 290 13) w) 290 13 (I 290 13 + 1) 296 (80 * r + q) = if r = S.1 ∧ q = S.2.1 + j then w else I 296 (80 * r + q) := by
      rw [u2_n (Or.inl (by decide)), u2_at, u2_n (Or.inl (by decide)), h1, h2]
      by_cases hrq : r = S.1 ∧ q = S.2.1 + j
      · rw [if_pos ⟨rfl, by omega⟩, if_pos hrq]
      · rw [if_neg (by omega), if_neg hrq]
    have e5 : u2 (u2 (u2 I 295 (80 * I 290 12 + I 290 13) c) 296 (80 * I 290 12 + I 290 13) w) 290 13 (I 290 13 + 1) 295 (80 * r + q) = if r = S.1 ∧ q = S.2.1 + j then c else I 295 (80 * r + q) := by
      rw [u2_n (Or.inl (by decide)), u2_n (Or.inl (by decide)), u2_at, h1, h2]
      by_cases hrq : r = S.1 ∧ q = S.2.1 + j
      · rw [if_pos ⟨rfl, by omega⟩, if_pos hrq]
      · rw [if_neg (by omega), if_neg hrq]
    rw [e6, e5]
    by_cases hrq : r = S.1 ∧ q = S.2.1 + j
    · have hN1 := hN.1 ⟨by omega, by omega, by omega⟩
      rw [if_pos hrq, if_pos hrq, hN1.1, hN1.2, hw, hc, show s + q - S.2.1 = s + j by omega]
      exact ⟨rfl, rfl⟩
    · rw [if_neg hrq, if_neg hrq, h4.1, h4.2]
      by_cases hin : S.1 = r ∧ S.2.1 ≤ q ∧ q < S.2.1 + j
      · rw [(hO.1 hin).1, (hO.1 hin).2, (hN.1 ⟨hin.1, hin.2.1, by omega⟩).1, (hN.1 ⟨hin.1, hin.2.1, by omega⟩).2]
        exact ⟨rfl, rfl⟩
      · rw [(hO.2 hin).1, (hO.2 hin).2, (hN.2 (by omega)).1, (hN.2 (by omega)).2]
        exact ⟨rfl, rfl⟩
theorem MG.seg0 {I : Mem} {W : Int} {v : YV} {S : LSt} {k kr kp : Int} (h : MG I W v S k) (hi : Inv W S kr kp) (d s : Int) : MG I W v (sSeg S 0 d s) k := by
  refine ⟨h.1, ?_, h.2.2.1, fun r q r1 r2 q1 q2 => ?_⟩
  · show I 290 13 = S.2.1 + 0
    rw [Int.add_zero]
    exact h.2.1
  · have hO := (seg_cell (l := 0) (d := d) (s := s) v hi r q).2 (by omega)
    rw [hO.1, hO.2]
    exact h.2.2.2 r q r1 r2 q1 q2
theorem MG.at {I : Mem} {W : Int} {v : YV} {S : LSt} {k c : Int} (h : MG I W v S k) : MG (u2 I 290 13 c) W v (sAt S c) k := by
  refine ⟨(u2_n (Or.inr (by decide))).trans h.1, u2_s, fun q z q1 q2 z1 z2 => (u2_n (Or.inl (by decide))).trans (h.2.2.1 q z q1 q2 z1 z2), fun r q r1 r2 q1 q2 => ?_⟩
  rw [u2_n (Or.inl (by decide)), u2_n (Or.inl (by decide))]
  exact h.2.2.2 r q r1 r2 q1 q2
/-- a new line -/
theorem MG.line {I I1 : Mem} {W : Int} {v : YV} {S : LSt} {k kr kp H : Int} (h : MG I W v S k) (hi : Inv W S kr kp) (hW : W ≤ 80) (h1 : I1 290 12 = S.1 + 1) (h2 : I1 290 13 = H) (h3 : ∀ q : Int, 0 ≤ q → q < W → I1 296 (80 * (S.1 + 1) + q) = 0 ∧ I1 295 (80 * (S.1 + 1) + q) = 32) (h4 : ∀ (x : Nat) (q : Int), 295 ≤ x → ¬ (x ≤ 296 ∧ 80 * (S.1 + 1) ≤ q ∧ q < 80 * (S.1 + 1) + W) → I1 x q = I x q) : MG I1 W v (sLine H S) k := by
  refine ⟨h1, h2, fun q z q1 q2 z1 z2 => (h4 _ _ (by decide) (by omega)).trans (h.2.2.1 q z q1 q2 z1 z2), fun r q r1 r2 q1 q2 => ?_⟩
  have r2 : r ≤ S.1 + 1 := r2
  show I1 296 (80 * r + q) = whG S r q ∧ I1 295 (80 * r + q) = chG v S r q
  by_cases hr : r = S.1 + 1
  · have hf := free_wh (v := v) (free_at hi (r := r) (q := q) (Or.inl (by omega)))
    rw [hf.1, hf.2, hr]
    exact h3 q q1 q2
  · rw [h4 _ _ (by decide) (by omega), h4 _ _ (by decide) (by omega)]
    exact h.2.2.2 r q r1 (by omega) q1 q2
/-- fields -/
def mfI (I : Mem) (cur : Int) : Mem := if I 297 (6 * cur) = I 290 12 then u2 I 297 (6 * cur + 2) (I 290 13 - I 297 (6 * cur + 1)) else I
theorem mfI_k (I : Mem) (cur : Int) : MK (mfI I cur) I := fun x j a b => by
  unfold mfI
  split
  · exact u2_n (by omega)
  · rfl
theorem MG.fill {I : Mem} {W : Int} {v : YV} {S : LSt} {k cur : Int} (h : MG I W v S k) (hc : 0 ≤ cur ∧ cur < k) : MG (mfI I cur) W v (sFill cur S) k := by
  have h0 := h.2.2.1 cur 0 hc.1 hc.2 (by decide) (by decide)
  have h1 := h.2.2.1 cur 1 hc.1 hc.2 (by decide) (by decide)
  rw [Int.add_zero] at h0
  have hcell := fill_cell v cur S
  have hsame := sFill_same cur S
  have hk := mfI_k I cur
  have hx : ∀ (x : Nat) (j : Int), x ≠ 297 → mfI I cur x j = I x j := fun x j hx => by
    unfold mfI
    split
    · exact u2_n (Or.inl hx)
    · rfl
  refine ⟨by rw [hx _ _ (by decide), hsame.1]; exact h.1, by rw [hx _ _ (by decide), hsame.2.1]; exact h.2.1, fun q z q1 q2 z1 z2 => ?_, fun r q r1 r2 q1 q2 => ?_⟩
  · unfold mfI sFill
    rw [h0, h.1]
    by_cases hb : S.2.2.2.2 cur 0 = S.1
    · rw [if_pos hb, if_pos hb, h1, h.2.1, u2_at]
      show (if 297 = 297 ∧ 6 * q + z = 6 * cur + 2 then S.2.1 - S.2.2.2.2 cur 1 else I 297 (6 * q + z)) = if q = cur ∧ z = 2 then S.2.1 - S.2.2.2.2 cur 1 else S.2.2.2.2 q z
      by_cases hq : q = cur ∧ z = 2
      · rw [if_pos ⟨rfl, by omega⟩, if_pos hq]
      · rw [if_neg (by omega), if_neg hq]
        exact h.2.2.1 q z q1 q2 z1 z2
    · rw [if_neg hb, if_neg hb]
      exact h.2.2.1 q z q1 q2 z1 z2
  · rw [hsame.1] at r2
    rw [hx _ _ (by decide), hx _ _ (by decide), (hcell r q).1, (hcell r q).2]
    exact h.2.2.2 r q r1 r2 q1 q2
def mbI (I : Mem) (cur p k m : Int) : Mem := u2 (u2 (u2 (u2 (u2 (u2 I 297 (6 * cur) (I 290 12)) 297 (6 * cur + 1) (I 290 13)) 297 (6 * cur + 2) 0) 297 (6 * cur + 3) p) 297 (6 * cur + 4) k) 297 (6 * cur + 5) m
theorem mbI_n {I : Mem} {cur p k m : Int} {x : Nat} {j : Int} (h : x ≠ 297 ∨ ¬ (6 * cur ≤ j ∧ j < 6 * cur + 6)) : mbI I cur p k m x j = I x j := by
  unfold mbI
  rw [u2_n (by omega), u2_n (by omega), u2_n (by omega), u2_n (by omega), u2_n (by omega), u2_n (by omega)]
theorem MG.beg {I : Mem} {W : Int} {v : YV} {S : LSt} {cur p kd m : Int} (h : MG I W v S cur) (hc : 0 ≤ cur) : MG (mbI I cur p kd m) W v (sBeg cur S p kd m) (cur + 1) := by
  refine ⟨(mbI_n (Or.inl (by decide))).trans h.1, (mbI_n (Or.inl (by decide))).trans h.2.1, fun q z q1 q2 z1 z2 => ?_, fun r q r1 r2 q1 q2 => ?_⟩
  · show _ = if q = cur then (if z = 0 then S.1 else if z = 1 then S.2.1 else if z = 2 then 0 else if z = 3 then p else if z = 4 then kd else m) else S.2.2.2.2 q z
    by_cases hq : q = cur
    · rw [if_pos hq, hq]
      unfold mbI
      rcases (show z = 0 ∨ z = 1 ∨ z = 2 ∨ z = 3 ∨ z = 4 ∨ z = 5 by omega) with rfl | rfl | rfl | rfl | rfl | rfl
      · rw [Int.add_zero, u2_n (by omega), u2_n (by omega), u2_n (by omega), u2_n (by omega), u2_n (by omega), u2_s]; exact h.1
      · rw [u2_n (by omega), u2_n (by omega), u2_n (by omega), u2_n (by omega), u2_s]; exact h.2.1
      · rw [u2_n (by omega), u2_n (by omega), u2_n (by omega), u2_s]; rfl
      · rw [u2_n (by omega), u2_n (by omega), u2_s]; rfl
      · rw [u2_n (by omega), u2_s]; rfl
      · rw [u2_s]; rfl
    · rw [if_neg hq, mbI_n (by omega)]
      exact h.2.2.1 q z q1 (by omega) z1 z2
  · rw [mbI_n (Or.inl (by decide)), mbI_n (Or.inl (by decide))]
    exact h.2.2.2 r q r1 r2 q1 q2
set_option maxHeartbeats 4000000 in
set_option maxRecDepth 100000 in
theorem m_letterAt (I : Mem) (R : RMem) (hRO : RefOk R) {W D p s : Int} {y v : YV} (hC : MC I W D p s y v) (hWr : 20 ≤ W ∧ W ≤ 80) (hvl : 0 ≤ v.2.1 ∧ v.2.1 ≤ 80) (k : Int) (hk : 0 ≤ k ∧ k < v.2.1) : CC 0 0 0 yX8_letterAt cX8_letterAt 2 (some .int) [.inr (some 290), .inl (k)] (298, ShF, I, R) (PF (v.2.2 k) I R) := by
  have hw14 := hC.1.1
  have hs15 := hC.1.2.1
  have hb16 := hC.1.2.2
  have hp := hC.2.1
  have hs := hC.2.2.1
  have hMP := hC.2.2.2.2.2
  refine CC_of (own := RX8) (ini := false) (by decide +kernel) rfl (fun h => absurd h (by decide)) (Nat.le_of_ble_eq_true rfl) ?_
  show WW cX8_letterAt RX8 2 (some .int) false 0 0 0 (PF (v.2.2 k) I R) 0 0 0 [some (.inr (some 290)), some (.inl (k))] [] (298, ShF, I, R)
  refine r_aload_n dX8_letterAt_0 rfl ?_
  refine q_getR fl_X8_7 dX8_letterAt_1 sf_290 (ro_290_0 hRO) ?_
  refine r_aload_n dX8_letterAt_4 rfl ?_
  refine q_getI fl_X8_107 dX8_letterAt_5 sf_290 ?_
  rw [hb16]
  refine r_iconst dX8_letterAt_8 ?_
  refine r_iadd dX8_letterAt_9 ?_
  refine r_iload_n dX8_letterAt_10 rfl ?_
  refine r_iadd dX8_letterAt_11 ?_
  refine q_iald dX8_letterAt_12 sf_291 (by omega) ?_
  refine q_iretF dX8_letterAt_13 rfl ?_
  have := hMP.2.2 k hk.1 hk.2
  dsimp only at this
  rw [show 111 + 82 * p + 2 + k = 111 + 82 * p + (2 + k) by omega]
  exact this
set_option maxHeartbeats 4000000 in
set_option maxRecDepth 100000 in
theorem m_length (I : Mem) (R : RMem) (hRO : RefOk R) {W D p s : Int} {y v : YV} (hC : MC I W D p s y v) (hWr : 20 ≤ W ∧ W ≤ 80) (hvl : 0 ≤ v.2.1 ∧ v.2.1 ≤ 80)  : CC 0 0 0 yX8_length cX8_length 1 (some .int) [.inr (some 290)] (298, ShF, I, R) (PF v.2.1 I R) := by
  have hw14 := hC.1.1
  have hs15 := hC.1.2.1
  have hb16 := hC.1.2.2
  have hp := hC.2.1
  have hs := hC.2.2.1
  have hMP := hC.2.2.2.2.2
  refine CC_of (own := RX8) (ini := false) (by decide +kernel) rfl (fun h => absurd h (by decide)) (Nat.le_of_ble_eq_true rfl) ?_
  show WW cX8_length RX8 1 (some .int) false 0 0 0 (PF v.2.1 I R) 0 0 0 [some (.inr (some 290))] [] (298, ShF, I, R)
  refine r_aload_n dX8_length_0 rfl ?_
  refine q_getR fl_X8_7 dX8_length_1 sf_290 (ro_290_0 hRO) ?_
  refine r_aload_n dX8_length_4 rfl ?_
  refine q_getI fl_X8_107 dX8_length_5 sf_290 ?_
  rw [hb16]
  refine r_iconst dX8_length_8 ?_
  refine r_iadd dX8_length_9 ?_
  refine q_iald dX8_length_10 sf_291 (by omega) ?_
  refine q_iretF dX8_length_11 rfl ?_
  exact hMP.2.1
set_option maxHeartbeats 4000000 in
set_option maxRecDepth 100000 in
theorem m_opensLine (I : Mem) (R : RMem) (hRO : RefOk R) {W : Int} (hWr : 20 ≤ W ∧ W ≤ 80) (hw14 : I 290 14 = W) (h80 : 0 ≤ I 290 12 ∧ I 290 12 ≤ 84)  : CC 0 0 0 yX8_opensLine cX8_opensLine 2 none [.inr (some 290)] (298, ShF, I, R) (PW R (fun I1 => (∀ q : Int, 0 ≤ q → q < W → I1 296 (80 * I 290 12 + q) = 0 ∧ I1 295 (80 * I 290 12 + q) = 32) ∧ ∀ (x : Nat) (q : Int), ¬ ((x = 295 ∨ x = 296) ∧ 80 * I 290 12 ≤ q ∧ q < 80 * I 290 12 + W) → I1 x q = I x q)) := by
  have hloop : ∀ (n : Nat) (k : Int) (I1 : Mem), W < k + n → (0 ≤ k ∧ k ≤ W) → (∀ q : Int, 0 ≤ q → q < k → I1 296 (80 * I 290 12 + q) = 0 ∧ I1 295 (80 * I 290 12 + q) = 32) → (∀ (x : Nat) (q : Int), ¬ ((x = 295 ∨ x = 296) ∧ 80 * I 290 12 ≤ q ∧ q < 80 * I 290 12 + k) → I1 x q = I x q) → WW cX8_opensLine RX8 2 none false 0 0 0 (PW R (fun I1 => (∀ q : Int, 0 ≤ q → q < W → I1 296 (80 * I 290 12 + q) = 0 ∧ I1 295 (80 * I 290 12 + q) = 32) ∧ ∀ (x : Nat) (q : Int), ¬ ((x = 295 ∨ x = 296) ∧ 80 * I 290 12 ≤ q ∧ q < 80 * I 290 12 + W) → I1 x q = I x q)) 0 0 2 [some (.inr (some 290)), some (.inl (k))] [] (298, ShF, I1, R) := by
    intro n
    induction n with
    | zero => intros; exfalso; omega
    | succ n ih =>
      intro k I1 g1 g2 g3 g4
      refine r_iload_n dX8_opensLine_2 rfl ?_
      refine r_aload_n dX8_opensLine_3 rfl ?_
      refine q_getI fl_X8_110 dX8_opensLine_4 sf_290 ?_
      rw [g4 _ _ (by omega), hw14]
      refine r_icmpge (tgt := 47) dX8_opensLine_7 (by decide) (by omega) (by omega) (fun h7 => ?_) (fun h7 => ?_)
      · refine q_vretW dX8_opensLine_47 rfl ?_
        rw [show k = W by omega] at g3 g4
        exact ⟨g3, g4⟩
      · refine r_aload_n dX8_opensLine_10 rfl ?_
        refine q_getR fl_X8_23 dX8_opensLine_11 sf_290 (ro_290_8 hRO) ?_
        refine r_bipush dX8_opensLine_14 (by decide) ?_
        refine r_aload_n dX8_opensLine_16 rfl ?_
        refine q_getI fl_X8_113 dX8_opensLine_17 sf_290 ?_
        rw [g4 _ _ (by omega)]
        refine r_imul dX8_opensLine_20 ?_
        refine r_iload_n dX8_opensLine_21 rfl ?_
        refine r_iadd dX8_opensLine_22 ?_
        refine r_bipush dX8_opensLine_23 (by decide) ?_
        refine q_bast dX8_opensLine_25 sf_295 (by omega) (by decide) ?_
        refine r_aload_n dX8_opensLine_26 rfl ?_
        refine q_getR fl_X8_26 dX8_opensLine_27 sf_290 (ro_290_9 hRO) ?_
        refine r_bipush dX8_opensLine_30 (by decide) ?_
        refine r_aload_n dX8_opensLine_32 rfl ?_
        refine q_getI fl_X8_113 dX8_opensLine_33 sf_290 ?_
        rw [u2_n (Or.inl (by decide)), g4 _ _ (by omega)]
        refine r_imul dX8_opensLine_36 ?_
        refine r_iload_n dX8_opensLine_37 rfl ?_
        refine r_iadd dX8_opensLine_38 ?_
        refine r_iconst dX8_opensLine_39 ?_
        refine q_bast dX8_opensLine_40 sf_296 (by omega) (by decide) ?_
        refine r_iinc dX8_opensLine_41 rfl (by decide) ?_
        dsimp only [lset]
        refine r_goto (tgt := 2) dX8_opensLine_44 (by decide) ?_
        refine ih (k + 1) _ (by omega) (by omega) (fun q q1 q2 => ?_) (fun x q h => by rw [u2_n (by omega), u2_n (by omega)]; exact g4 x q (by omega))
        rw [u2_at, u2_n (Or.inl (by decide)), u2_n (Or.inl (by decide)), u2_at]
        by_cases hq : q = k
        · rw [if_pos ⟨rfl, by omega⟩, if_pos ⟨rfl, by omega⟩]
          exact ⟨rfl, rfl⟩
        · rw [if_neg (by omega), if_neg (by omega)]
          exact g3 q q1 (by omega)
  refine CC_of (own := RX8) (ini := false) (by decide +kernel) rfl (fun h => absurd h (by decide)) (Nat.le_of_ble_eq_true rfl) ?_
  show WW cX8_opensLine RX8 2 none false 0 0 0 (PW R (fun I1 => (∀ q : Int, 0 ≤ q → q < W → I1 296 (80 * I 290 12 + q) = 0 ∧ I1 295 (80 * I 290 12 + q) = 32) ∧ ∀ (x : Nat) (q : Int), ¬ ((x = 295 ∨ x = 296) ∧ 80 * I 290 12 ≤ q ∧ q < 80 * I 290 12 + W) → I1 x q = I x q)) 0 0 0 [some (.inr (some 290)), none] [] (298, ShF, I, R)
  refine r_iconst dX8_opensLine_0 ?_
  refine r_istore_n dX8_opensLine_1 (by decide) ?_
  dsimp only [lset]
  exact hloop 81 0 I (by omega) (by omega) (fun q q1 q2 => by omega) (fun _ _ _ => rfl)
set_option maxHeartbeats 4000000 in
set_option maxRecDepth 100000 in
theorem m_writes (I : Mem) (R : RMem) (hRO : RefOk R) (c w : Int) (hc : 0 ≤ c ∧ c ≤ 127) (hw : 0 ≤ w ∧ w ≤ 3) (h80 : 0 ≤ 80 * I 290 12 + I 290 13 ∧ 80 * I 290 12 + I 290 13 < 6800) : CC 0 0 0 yX8_writes cX8_writes 3 none [.inr (some 290), .inl (c), .inl (w)] (298, ShF, I, R) (PW R (fun I1 => I1 = wrI I c w)) := by
  refine CC_of (own := RX8) (ini := false) (by decide +kernel) rfl (fun h => absurd h (by decide)) (Nat.le_of_ble_eq_true rfl) ?_
  show WW cX8_writes RX8 3 none false 0 0 0 (PW R (fun I1 => I1 = wrI I c w)) 0 0 0 [some (.inr (some 290)), some (.inl (c)), some (.inl (w))] [] (298, ShF, I, R)
  refine r_aload_n dX8_writes_0 rfl ?_
  refine q_getR fl_X8_23 dX8_writes_1 sf_290 (ro_290_8 hRO) ?_
  refine r_bipush dX8_writes_4 (by decide) ?_
  refine r_aload_n dX8_writes_6 rfl ?_
  refine q_getI fl_X8_113 dX8_writes_7 sf_290 ?_
  refine r_imul dX8_writes_10 ?_
  refine r_aload_n dX8_writes_11 rfl ?_
  refine q_getI fl_X8_122 dX8_writes_12 sf_290 ?_
  refine r_iadd dX8_writes_15 ?_
  refine r_iload_n dX8_writes_16 rfl ?_
  refine r_i2b dX8_writes_17 ?_
  have ebm : c.bmod 256 = c := (bm_eq c (by omega)).1 (by omega)
  rw [ebm]
  refine q_bast dX8_writes_18 sf_295 (by omega) (by omega) ?_
  refine r_aload_n dX8_writes_19 rfl ?_
  refine q_getR fl_X8_26 dX8_writes_20 sf_290 (ro_290_9 hRO) ?_
  refine r_bipush dX8_writes_23 (by decide) ?_
  refine r_aload_n dX8_writes_25 rfl ?_
  refine q_getI fl_X8_113 dX8_writes_26 sf_290 ?_
  rw [u2_n (Or.inl (by decide))]
  refine r_imul dX8_writes_29 ?_
  refine r_aload_n dX8_writes_30 rfl ?_
  refine q_getI fl_X8_122 dX8_writes_31 sf_290 ?_
  rw [u2_n (Or.inl (by decide))]
  refine r_iadd dX8_writes_34 ?_
  refine r_iload_n dX8_writes_35 rfl ?_
  refine r_i2b dX8_writes_36 ?_
  have ebw : w.bmod 256 = w := (bm_eq w (by omega)).1 (by omega)
  rw [ebw]
  refine q_bast dX8_writes_37 sf_296 (by omega) (by omega) ?_
  refine r_aload_n dX8_writes_38 rfl ?_
  refine r_dup dX8_writes_39 ?_
  refine q_getI fl_X8_122 dX8_writes_40 sf_290 ?_
  rw [u2_n (Or.inl (by decide)), u2_n (Or.inl (by decide))]
  refine r_iconst dX8_writes_43 ?_
  refine r_iadd dX8_writes_44 ?_
  refine q_putI fl_X8_122 dX8_writes_45 sf_290 ?_
  refine q_vretW dX8_writes_48 rfl ?_
  rfl
set_option maxHeartbeats 4000000 in
set_option maxRecDepth 100000 in
theorem m_begins (I : Mem) (R : RMem) (hRO : RefOk R) (cur : Int) (hcur : I 290 17 = cur) (hc81 : 0 ≤ cur ∧ cur < 81) (p k m : Int) : CC 0 0 0 yX8_begins cX8_begins 4 none [.inr (some 290), .inl (p), .inl (k), .inl (m)] (298, ShF, I, R) (PW R (fun I1 => I1 = mbI I cur p k m)) := by
  refine CC_of (own := RX8) (ini := false) (by decide +kernel) rfl (fun h => absurd h (by decide)) (Nat.le_of_ble_eq_true rfl) ?_
  show WW cX8_begins RX8 4 none false 0 0 0 (PW R (fun I1 => I1 = mbI I cur p k m)) 0 0 0 [some (.inr (some 290)), some (.inl (p)), some (.inl (k)), some (.inl (m))] [] (298, ShF, I, R)
  refine r_aload_n dX8_begins_0 rfl ?_
  refine q_getR fl_X8_29 dX8_begins_1 sf_290 (ro_290_10 hRO) ?_
  refine r_bipush dX8_begins_4 (by decide) ?_
  refine r_aload_n dX8_begins_6 rfl ?_
  refine q_getI fl_X8_125 dX8_begins_7 sf_290 ?_
  rw [hcur]
  refine r_imul dX8_begins_10 ?_
  refine r_aload_n dX8_begins_11 rfl ?_
  refine q_getI fl_X8_113 dX8_begins_12 sf_290 ?_
  refine q_iast dX8_begins_15 sf_297 (by omega) ?_
  refine r_aload_n dX8_begins_16 rfl ?_
  refine q_getR fl_X8_29 dX8_begins_17 sf_290 (ro_290_10 hRO) ?_
  refine r_bipush dX8_begins_20 (by decide) ?_
  refine r_aload_n dX8_begins_22 rfl ?_
  refine q_getI fl_X8_125 dX8_begins_23 sf_290 ?_
  rw [u2_n (Or.inl (by decide)), hcur]
  refine r_imul dX8_begins_26 ?_
  refine r_iconst dX8_begins_27 ?_
  refine r_iadd dX8_begins_28 ?_
  refine r_aload_n dX8_begins_29 rfl ?_
  refine q_getI fl_X8_122 dX8_begins_30 sf_290 ?_
  rw [u2_n (Or.inl (by decide))]
  refine q_iast dX8_begins_33 sf_297 (by omega) ?_
  refine r_aload_n dX8_begins_34 rfl ?_
  refine q_getR fl_X8_29 dX8_begins_35 sf_290 (ro_290_10 hRO) ?_
  refine r_bipush dX8_begins_38 (by decide) ?_
  refine r_aload_n dX8_begins_40 rfl ?_
  refine q_getI fl_X8_125 dX8_begins_41 sf_290 ?_
  rw [u2_n (Or.inl (by decide)), u2_n (Or.inl (by decide)), hcur]
  refine r_imul dX8_begins_44 ?_
  refine r_iconst dX8_begins_45 ?_
  refine r_iadd dX8_begins_46 ?_
  refine r_iconst dX8_begins_47 ?_
  refine q_iast dX8_begins_48 sf_297 (by omega) ?_
  refine r_aload_n dX8_begins_49 rfl ?_
  refine q_getR fl_X8_29 dX8_begins_50 sf_290 (ro_290_10 hRO) ?_
  refine r_bipush dX8_begins_53 (by decide) ?_
  refine r_aload_n dX8_begins_55 rfl ?_
  refine q_getI fl_X8_125 dX8_begins_56 sf_290 ?_
  rw [u2_n (Or.inl (by decide)), u2_n (Or.inl (by decide)), u2_n (Or.inl (by decide)), hcur]
  refine r_imul dX8_begins_59 ?_
  refine r_iconst dX8_begins_60 ?_
  refine r_iadd dX8_begins_61 ?_
  refine r_iload_n dX8_begins_62 rfl ?_
  refine q_iast dX8_begins_63 sf_297 (by omega) ?_
  refine r_aload_n dX8_begins_64 rfl ?_
  refine q_getR fl_X8_29 dX8_begins_65 sf_290 (ro_290_10 hRO) ?_
  refine r_bipush dX8_begins_68 (by decide) ?_
  refine r_aload_n dX8_begins_70 rfl ?_
  refine q_getI fl_X8_125 dX8_begins_71 sf_290 ?_
  rw [u2_n (Or.inl (by decide)), u2_n (Or.inl (by decide)), u2_n (Or.inl (by decide)), u2_n (Or.inl (by decide)), hcur]
  refine r_imul dX8_begins_74 ?_
  refine r_iconst dX8_begins_75 ?_
  refine r_iadd dX8_begins_76 ?_
  refine r_iload_n dX8_begins_77 rfl ?_
  refine q_iast dX8_begins_78 sf_297 (by omega) ?_
  refine r_aload_n dX8_begins_79 rfl ?_
  refine q_getR fl_X8_29 dX8_begins_80 sf_290 (ro_290_10 hRO) ?_
  refine r_bipush dX8_begins_83 (by decide) ?_
  refine r_aload_n dX8_begins_85 rfl ?_
  refine q_getI fl_X8_125 dX8_begins_86 sf_290 ?_
  rw [u2_n (Or.inl (by decide)), u2_n (Or.inl (by decide)), u2_n (Or.inl (by decide)), u2_n (Or.inl (by decide)), u2_n (Or.inl (by decide)), hcur]
  refine r_imul dX8_begins_89 ?_
  refine r_iconst dX8_begins_90 ?_
  refine r_iadd dX8_begins_91 ?_
  refine r_iload_n dX8_begins_92 rfl ?_
  refine q_iast dX8_begins_93 sf_297 (by omega) ?_
  refine q_vretW dX8_begins_94 rfl ?_
  rfl
set_option maxHeartbeats 4000000 in
set_option maxRecDepth 100000 in
theorem m_fills (I : Mem) (R : RMem) (hRO : RefOk R) (cur : Int) (hcur : I 290 17 = cur) (hc81 : 0 ≤ cur ∧ cur < 81) (hb0 : 0 ≤ I 297 (6 * cur) ∧ I 297 (6 * cur) ≤ 100) (hb6 : 0 ≤ I 290 12 ∧ I 290 12 ≤ 100) : CC 0 0 0 yX8_fills cX8_fills 1 none [.inr (some 290)] (298, ShF, I, R) (PW R (fun I1 => I1 = mfI I cur)) := by
  refine CC_of (own := RX8) (ini := false) (by decide +kernel) rfl (fun h => absurd h (by decide)) (Nat.le_of_ble_eq_true rfl) ?_
  show WW cX8_fills RX8 1 none false 0 0 0 (PW R (fun I1 => I1 = mfI I cur)) 0 0 0 [some (.inr (some 290))] [] (298, ShF, I, R)
  refine r_aload_n dX8_fills_0 rfl ?_
  refine q_getR fl_X8_29 dX8_fills_1 sf_290 (ro_290_10 hRO) ?_
  refine r_bipush dX8_fills_4 (by decide) ?_
  refine r_aload_n dX8_fills_6 rfl ?_
  refine q_getI fl_X8_125 dX8_fills_7 sf_290 ?_
  rw [hcur]
  refine r_imul dX8_fills_10 ?_
  refine q_iald dX8_fills_11 sf_297 (by omega) ?_
  refine r_aload_n dX8_fills_12 rfl ?_
  refine q_getI fl_X8_113 dX8_fills_13 sf_290 ?_
  refine r_icmpne (tgt := 52) dX8_fills_16 (by decide) (by omega) (by omega) (fun h16 => ?_) (fun h16 => ?_)
  · refine q_vretW dX8_fills_52 rfl ?_
    unfold mfI
    first | (rw [if_pos (by omega)]) | (rw [if_neg (by omega)])
  · refine r_aload_n dX8_fills_19 rfl ?_
    refine q_getR fl_X8_29 dX8_fills_20 sf_290 (ro_290_10 hRO) ?_
    refine r_bipush dX8_fills_23 (by decide) ?_
    refine r_aload_n dX8_fills_25 rfl ?_
    refine q_getI fl_X8_125 dX8_fills_26 sf_290 ?_
    rw [hcur]
    refine r_imul dX8_fills_29 ?_
    refine r_iconst dX8_fills_30 ?_
    refine r_iadd dX8_fills_31 ?_
    refine r_aload_n dX8_fills_32 rfl ?_
    refine q_getI fl_X8_122 dX8_fills_33 sf_290 ?_
    refine r_aload_n dX8_fills_36 rfl ?_
    refine q_getR fl_X8_29 dX8_fills_37 sf_290 (ro_290_10 hRO) ?_
    refine r_bipush dX8_fills_40 (by decide) ?_
    refine r_aload_n dX8_fills_42 rfl ?_
    refine q_getI fl_X8_125 dX8_fills_43 sf_290 ?_
    rw [hcur]
    refine r_imul dX8_fills_46 ?_
    refine r_iconst dX8_fills_47 ?_
    refine r_iadd dX8_fills_48 ?_
    refine q_iald dX8_fills_49 sf_297 (by omega) ?_
    refine r_isub dX8_fills_50 ?_
    refine q_iast dX8_fills_51 sf_297 (by omega) ?_
    refine q_vretW dX8_fills_52 rfl ?_
    unfold mfI
    first | (rw [if_pos (by omega)]) | (rw [if_neg (by omega)])
