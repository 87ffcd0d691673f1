/-! sums over the columns of the lines -/
def sm (f : Int → Int) : Nat → Int
  | 0 => 0
  | n + 1 => sm f n + f n
theorem sm_congr {f g : Int → Int} : ∀ n : Nat, (∀ i : Int, 0 ≤ i → i < n → f i = g i) → sm f n = sm g n
  | 0, _ => rfl
  | n + 1, h => by
    show sm f n + f n = sm g n + g n
    rw [sm_congr n (fun i a b => h i a (by omega)), h n (by omega) (by omega)]
theorem sm_add (f g : Int → Int) : ∀ n : Nat, sm (fun i => f i + g i) n = sm f n + sm g n
  | 0 => rfl
  | n + 1 => by
    show sm (fun i => f i + g i) n + (f n + g n) = (sm f n + f n) + (sm g n + g n)
    rw [sm_add f g n]
    omega
theorem sm_c (c : Int) : ∀ n : Nat, sm (fun _ => c) n = n * c
  | 0 => (Int.zero_mul c).symm
  | n + 1 => by
    show sm (fun _ => c) n + c = ((n + 1 : Nat) : Int) * c
    rw [sm_c c n, show ((n + 1 : Nat) : Int) = (n : Int) + 1 by omega, Int.add_mul, Int.one_mul]
theorem sm_z (n : Nat) : sm (fun _ => 0) n = 0 := by rw [sm_c, Int.mul_zero]
theorem sm_swap (f : Int → Int → Int) (n : Nat) : ∀ m : Nat, sm (fun r => sm (f r) n) m = sm (fun q => sm (fun r => f r q) m) n
  | 0 => (sm_z n).symm
  | m + 1 => by
    show sm (fun r => sm (f r) n) m + sm (f m) n = sm (fun q => sm (fun r => f r q) m + f m q) n
    rw [sm_swap f n m, sm_add]
theorem sm_shift (f : Int → Int) : ∀ n : Nat, sm f (n + 1) = f 0 + sm (fun i => f (i + 1)) n
  | 0 => by
    show (0 : Int) + f 0 = f 0 + 0
    omega
  | n + 1 => by
    show sm f (n + 1) + f ((n + 1 : Nat) : Int) = f 0 + (sm (fun i => f (i + 1)) n + f ((n : Int) + 1))
    rw [sm_shift f n, show ((n + 1 : Nat) : Int) = (n : Int) + 1 by omega]
    omega
theorem sm_iv (c l : Int) (hc : 0 ≤ c) (hl : 0 ≤ l) : ∀ n : Nat, sm (fun q => if c ≤ q ∧ q < c + l then 1 else 0) n = if (n : Int) ≤ c then 0 else if (n : Int) ≤ c + l then n - c else l
  | 0 => by
    rw [if_pos (by omega)]
    rfl
  | n + 1 => by
    have ih := sm_iv c l hc hl n
    show sm (fun q => if c ≤ q ∧ q < c + l then 1 else 0) n + (if c ≤ (n : Int) ∧ (n : Int) < c + l then 1 else 0) = _
    rw [ih]
    (repeat' split) <;> omega
theorem sm_pt (a v : Int) (ha : 0 ≤ a) : ∀ m : Nat, sm (fun r => if r = a then v else 0) m = if a < m then v else 0
  | 0 => by
    rw [if_neg (by omega)]
    rfl
  | n + 1 => by
    have ih := sm_pt a v ha n
    show sm (fun r => if r = a then v else 0) n + (if (n : Int) = a then v else 0) = _
    rw [ih]
    (repeat' split) <;> omega
def s2 (f : Int → Int → Int) (W m : Nat) : Int := sm (fun r => sm (f r) W) m
theorem s2_congr {f g : Int → Int → Int} {W m : Nat} (h : ∀ r q : Int, 0 ≤ r → r < m → 0 ≤ q → q < W → f r q = g r q) : s2 f W m = s2 g W m :=
  sm_congr m (fun r r1 r2 => sm_congr W (fun q q1 q2 => h r q r1 r2 q1 q2))
theorem s2_add (f g : Int → Int → Int) (W m : Nat) : s2 (fun r q => f r q + g r q) W m = s2 f W m + s2 g W m := by
  unfold s2
  rw [← sm_add]
  exact sm_congr m (fun r _ _ => sm_add (f r) (g r) W)
theorem s2_one (W m : Nat) : s2 (fun _ _ => 1) W m = m * W := by
  unfold s2
  rw [sm_congr (g := fun _ => (W : Int)) m (fun r _ _ => by rw [sm_c, Int.mul_one]), sm_c]
/-! pieces, counted by their columns -/
theorem pcAt_cov {P : Int → PcV} {r q : Int} : ∀ n : Nat, pcAt P r q n ≠ -1 → (P (pcAt P r q n)).1 = r ∧ (P (pcAt P r q n)).2.1 ≤ q ∧ q ≤ (P (pcAt P r q n)).2.1 + (P (pcAt P r q n)).2.2.1 - 1
  | 0, h => absurd rfl h
  | n + 1, h => by
    have e : pcAt P r q (n + 1) = if pcAt P r q n ≠ -1 then pcAt P r q n else if (P n).1 = r ∧ (P n).2.1 ≤ q ∧ q ≤ (P n).2.1 + (P n).2.2.1 - 1 then (n : Int) else -1 := rfl
    by_cases h1 : pcAt P r q n ≠ -1
    · rw [e, if_pos h1]
      exact pcAt_cov n h1
    · rw [e, if_neg h1] at h ⊢
      by_cases h2 : (P n).1 = r ∧ (P n).2.1 ≤ q ∧ q ≤ (P n).2.1 + (P n).2.2.1 - 1
      · rw [if_pos h2]
        exact h2
      · rw [if_neg h2] at h
        exact absurd rfl h
abbrev KdP (p : PcV) (d : Int) : Prop := (p.2.2.2.1 = 0 ∧ d = 0) ∨ (p.2.2.2.1 ≠ 0 ∧ d = 1)
def kq (P : Int → PcV) (d : Int) (m : Nat) (r q : Int) : Int := if pcAt P r q m = -1 then 0 else if KdP (P (pcAt P r q m)) d then 1 else 0
def kx (p : PcV) (d : Int) (r q : Int) : Int := if p.1 = r ∧ p.2.1 ≤ q ∧ q ≤ p.2.1 + p.2.2.1 - 1 then (if KdP p d then 1 else 0) else 0
theorem kx_sum {p : PcV} {d : Int} {W m : Nat} (hr : 0 ≤ p.1 ∧ p.1 < m) (hc : 0 ≤ p.2.1) (hl : 0 ≤ p.2.2.1) (hW : p.2.1 + p.2.2.1 ≤ W) : s2 (kx p d) W m = if KdP p d then p.2.2.1 else 0 := by
  by_cases hk : KdP p d
  · rw [if_pos hk]
    have h1 : s2 (kx p d) W m = sm (fun r => if r = p.1 then p.2.2.1 else 0) m := by
      refine sm_congr m (fun r r1 r2 => ?_)
      by_cases hrr : r = p.1
      · rw [if_pos hrr]
        have h2 := sm_iv p.2.1 p.2.2.1 hc hl W
        have h3 : sm (kx p d r) W = sm (fun q => if p.2.1 ≤ q ∧ q < p.2.1 + p.2.2.1 then 1 else 0) W := by
          refine sm_congr W (fun q q1 q2 => ?_)
          unfold kx
          by_cases hq : p.2.1 ≤ q ∧ q < p.2.1 + p.2.2.1
          · rw [if_pos hq, if_pos (by omega), if_pos hk]
          · rw [if_neg hq, if_neg (by omega)]
        rw [h3, h2]
        by_cases q1 : (W : Int) ≤ p.2.1
        · rw [if_pos q1]; omega
        · rw [if_neg q1]
          by_cases q2 : (W : Int) ≤ p.2.1 + p.2.2.1
          · rw [if_pos q2]; omega
          · rw [if_neg q2]
      · rw [if_neg hrr]
        have h3 : sm (kx p d r) W = sm (fun _ => 0) W := by
          refine sm_congr W (fun q q1 q2 => ?_)
          unfold kx
          rw [if_neg (by omega)]
        rw [h3, sm_z]
    rw [h1, sm_pt _ _ hr.1, if_pos hr.2]
  · rw [if_neg hk]
    have h1 : s2 (kx p d) W m = s2 (fun _ _ => 0) W m := by
      refine s2_congr (fun r q _ _ _ _ => ?_)
      unfold kx
      rw [if_neg hk]
      split <;> rfl
    rw [h1]
    unfold s2
    rw [sm_congr (g := fun _ => 0) m (fun r _ _ => sm_z W), sm_z]
theorem kq_sum (P : Int → PcV) (d : Int) (rows W : Nat) : ∀ m : Nat, (∀ i : Int, 0 ≤ i → i < m → (0 ≤ (P i).1 ∧ (P i).1 < rows) ∧ 0 ≤ (P i).2.1 ∧ 0 ≤ (P i).2.2.1 ∧ (P i).2.1 + (P i).2.2.1 ≤ W) → (∀ i j : Int, 0 ≤ i → i < j → j < m → (P i).1 < (P j).1 ∨ ((P i).1 = (P j).1 ∧ (P i).2.1 + (P i).2.2.1 ≤ (P j).2.1)) → s2 (kq P d m) W rows = flG P d m
  | 0, _, _ => by
    have h1 : s2 (kq P d 0) W rows = s2 (fun _ _ => 0) W rows := s2_congr (fun r q _ _ _ _ => by unfold kq; exact if_pos rfl)
    rw [h1]
    unfold s2
    rw [sm_congr (g := fun _ => 0) rows (fun r _ _ => sm_z W), sm_z]
    rfl
  | m + 1, h1, h2 => by
    have ih := kq_sum P d rows W m (fun i a b => h1 i a (by omega)) (fun i j a b c => h2 i j a b (by omega))
    have hm := h1 m (by omega) (by omega)
    have hst : s2 (kq P d (m + 1)) W rows = s2 (fun r q => kq P d m r q + kx (P m) d r q) W rows := by
      refine s2_congr (fun r q _ _ _ _ => ?_)
      have e : pcAt P r q (m + 1) = if pcAt P r q m ≠ -1 then pcAt P r q m else if (P m).1 = r ∧ (P m).2.1 ≤ q ∧ q ≤ (P m).2.1 + (P m).2.2.1 - 1 then (m : Int) else -1 := rfl
      have hbd := pcAt_bd P r q m
      unfold kq
      by_cases hp : pcAt P r q m = -1
      · have e1 : pcAt P r q (m + 1) = if (P m).1 = r ∧ (P m).2.1 ≤ q ∧ q ≤ (P m).2.1 + (P m).2.2.1 - 1 then (m : Int) else -1 := by
          rw [e]
          exact if_neg (fun z => z hp)
        rw [if_pos hp, Int.zero_add]
        unfold kx
        by_cases hv : (P m).1 = r ∧ (P m).2.1 ≤ q ∧ q ≤ (P m).2.1 + (P m).2.2.1 - 1
        · rw [if_pos hv] at e1
          rw [if_pos hv, e1, if_neg (by omega)]
        · rw [if_neg hv] at e1
          rw [if_neg hv, e1, if_pos rfl]
      · have e1 : pcAt P r q (m + 1) = pcAt P r q m := by
          rw [e]
          exact if_pos hp
        have hc := pcAt_cov m hp
        have h3 := h2 (pcAt P r q m) m (by omega) (by omega) (by omega)
        have hx : kx (P m) d r q = 0 := if_neg (by omega)
        rw [hx, e1, Int.add_zero]
    rw [hst, s2_add, ih, kx_sum hm.1 hm.2.1 hm.2.2.1 hm.2.2.2]
    rfl
theorem brR_sm (P : Int → PcV) (m : Nat) (q : Int) : ∀ n : Nat, brR P m q n = sm (fun r => if pcAt P r q m = -1 then 1 else 0) n
  | 0 => rfl
  | n + 1 => by
    show brR P m q n + (if pcAt P n q m = -1 then 1 else 0) = sm (fun r => if pcAt P r q m = -1 then 1 else 0) n + (if pcAt P n q m = -1 then 1 else 0)
    rw [brR_sm P m q n]
theorem brG_sm (P : Int → PcV) (m : Nat) (g : Int → Int) (rows : Nat) : ∀ n : Nat, brG P m g rows n = sm (fun i => if 17 ≤ g (i + 1) then brR P m (i + 1) rows else 0) n
  | 0 => rfl
  | n + 1 => by
    show brG P m g rows n + (if 17 ≤ g ((n : Int) + 1) then brR P m ((n : Int) + 1) rows else 0) = sm (fun i => if 17 ≤ g (i + 1) then brR P m (i + 1) rows else 0) n + (if 17 ≤ g ((n : Int) + 1) then brR P m ((n : Int) + 1) rows else 0)
    rw [brG_sm P m g rows n]
theorem mkB_full {g : Int → Int} {q : Int} (hq : 0 ≤ q ∧ q ≤ 80) : mkB g (cntF g 80) q = if 1 ≤ q ∧ 17 ≤ g q then 1 else 0 := by
  unfold mkB
  by_cases h : 1 ≤ q ∧ 17 ≤ g q
  · rw [if_pos h, if_pos ⟨h.1, hq.2, h.2, cnt_lt (f := g) (p := q) ⟨h.1, hq.2, by omega⟩⟩]
  · rw [if_neg h, if_neg (fun z => h ⟨z.1, z.2.2.1⟩)]
def bcd (S : LSt) (g : Int → Int) (r q : Int) : Int := if whG S r q = 0 ∧ mkB g (cntF g 80) q = 1 then 3 else whG S r q
def bIs (S : LSt) (g : Int → Int) (z r q : Int) : Int := if bcd S g r q = z then 1 else 0
theorem bcd_in (S : LSt) (g : Int → Int) (r q : Int) : 0 ≤ bcd S g r q ∧ bcd S g r q ≤ 3 := by
  have h := whG_in S r q
  unfold bcd
  split <;> omega
theorem bIs_text {W : Int} {S : LSt} (g : Int → Int) (h : Inv W S 80 80) (d : Int) (hd : d = 0 ∨ d = 1) (hW : 0 ≤ W) : s2 (bIs S g (d + 1)) W.toNat (S.1 + 1).toNat = flG S.2.2.2.1 d S.2.2.1.toNat := by
  have h1 := h.1
  have hn := h.2.2.1
  rw [← kq_sum S.2.2.2.1 d (S.1 + 1).toNat W.toNat S.2.2.1.toNat (fun i a b => by have := h.2.2.2.1 i a (by omega); omega) (fun i j a b c => h.2.2.2.2 i j a b (by omega))]
  refine s2_congr (fun r q _ _ _ _ => ?_)
  have hw : whG S r q = if pcAt S.2.2.2.1 r q S.2.2.1.toNat = -1 then 0 else if (S.2.2.2.1 (pcAt S.2.2.2.1 r q S.2.2.1.toNat)).2.2.2.1 = 0 then 1 else 2 := rfl
  unfold bIs bcd kq
  by_cases hp : pcAt S.2.2.2.1 r q S.2.2.1.toNat = -1
  · rw [if_pos hp] at hw
    rw [if_pos hp, hw]
    split <;> rw [if_neg (by omega)]
  · rw [if_neg hp] at hw
    rw [if_neg hp]
    by_cases hk : (S.2.2.2.1 (pcAt S.2.2.2.1 r q S.2.2.1.toNat)).2.2.2.1 = 0
    · rw [if_pos hk] at hw
      rw [hw, if_neg (show ¬ ((1 : Int) = 0 ∧ mkB g (cntF g 80) q = 1) by omega)]
      by_cases hd0 : d = 0
      · rw [if_pos (by omega), if_pos (Or.inl ⟨hk, hd0⟩)]
      · rw [if_neg (by omega), if_neg (fun z => z.elim (fun y => hd0 y.2) (fun y => y.1 hk))]
    · rw [if_neg hk] at hw
      rw [hw, if_neg (show ¬ ((2 : Int) = 0 ∧ mkB g (cntF g 80) q = 1) by omega)]
      by_cases hd0 : d = 0
      · rw [if_neg (by omega), if_neg (fun z => z.elim (fun y => hk y.1) (fun y => by omega))]
      · rw [if_pos (by omega), if_pos (Or.inr ⟨hk, by omega⟩)]
theorem bIs_bar {W : Int} {S : LSt} (g : Int → Int) (hW : 20 ≤ W ∧ W ≤ 80) : s2 (bIs S g 3) W.toNat (S.1 + 1).toNat = brG S.2.2.2.1 S.2.2.1.toNat g (S.1 + 1).toNat (W - 1).toNat := by
  have h0 : s2 (bIs S g 3) W.toNat (S.1 + 1).toNat = s2 (fun r q => if 1 ≤ q ∧ 17 ≤ g q then (if pcAt S.2.2.2.1 r q S.2.2.1.toNat = -1 then 1 else 0) else 0) W.toNat (S.1 + 1).toNat := by
    refine s2_congr (fun r q r1 r2 q1 q2 => ?_)
    have hw : whG S r q = if pcAt S.2.2.2.1 r q S.2.2.1.toNat = -1 then 0 else if (S.2.2.2.1 (pcAt S.2.2.2.1 r q S.2.2.1.toNat)).2.2.2.1 = 0 then 1 else 2 := rfl
    have hin := whG_in S r q
    have hm := mkB_full (g := g) (q := q) (by omega)
    have he : bcd S g r q = if whG S r q = 0 ∧ mkB g (cntF g 80) q = 1 then 3 else whG S r q := rfl
    unfold bIs
    by_cases hb : 1 ≤ q ∧ 17 ≤ g q
    · rw [if_pos hb] at hm ⊢
      by_cases hp : pcAt S.2.2.2.1 r q S.2.2.1.toNat = -1
      · rw [if_pos hp] at hw ⊢
        rw [if_pos ⟨hw, hm⟩] at he
        rw [he, if_pos rfl]
      · rw [if_neg hp] at hw ⊢
        have hw0 : whG S r q ≠ 0 := by
          rw [hw]
          split <;> omega
        rw [if_neg (fun z => hw0 z.1)] at he
        rw [he, if_neg (by omega)]
    · rw [if_neg hb] at hm ⊢
      rw [if_neg (by omega)] at he
      rw [he, if_neg (by omega)]
  rw [h0, brG_sm]
  unfold s2
  rw [sm_swap, show W.toNat = (W - 1).toNat + 1 by omega, sm_shift]
  rw [sm_congr (g := fun _ => 0) (S.1 + 1).toNat (fun r _ _ => if_neg (by omega)), sm_z, Int.zero_add]
  refine sm_congr _ (fun i i1 i2 => ?_)
  by_cases hg : 17 ≤ g (i + 1)
  · rw [if_pos hg, brR_sm]
    exact sm_congr _ (fun r _ _ => if_pos ⟨by omega, hg⟩)
  · rw [if_neg hg, sm_congr (g := fun _ => 0) (S.1 + 1).toNat (fun r _ _ => if_neg (fun z => hg z.2)), sm_z]
theorem bIs_space {W : Int} {S : LSt} (g : Int → Int) (h : Inv W S 80 80) (hW : 20 ≤ W ∧ W ≤ 80) : s2 (bIs S g 0) W.toNat (S.1 + 1).toNat = (S.1 + 1) * W - flG S.2.2.2.1 0 S.2.2.1.toNat - flG S.2.2.2.1 1 S.2.2.1.toNat - brG S.2.2.2.1 S.2.2.1.toNat g (S.1 + 1).toNat (W - 1).toNat := by
  have h1 := bIs_text g h 0 (Or.inl rfl) (by omega)
  have h2 := bIs_text g h 1 (Or.inr rfl) (by omega)
  have h3 := bIs_bar (S := S) g hW
  have hr := h.1
  have h4 : s2 (fun r q => bIs S g 0 r q + (bIs S g (0 + 1) r q + (bIs S g (1 + 1) r q + bIs S g 3 r q))) W.toNat (S.1 + 1).toNat = s2 (fun _ _ => 1) W.toNat (S.1 + 1).toNat := by
    refine s2_congr (fun r q _ _ _ _ => ?_)
    have hin := bcd_in S g r q
    unfold bIs
    rcases (show bcd S g r q = 0 ∨ bcd S g r q = 1 ∨ bcd S g r q = 2 ∨ bcd S g r q = 3 by omega) with e | e | e | e <;> rw [e] <;> decide
  rw [s2_add, s2_one, s2_add, s2_add, Int.toNat_of_nonneg (show 0 ≤ S.1 + 1 by omega), Int.toNat_of_nonneg (show 0 ≤ W by omega)] at h4
  omega
def wnt (w : Int) : Int := if w = 0 then 1 else if w = 1 then 2 else if w = 2 then 3 else 0
theorem bIs_all {W w : Int} (a : AS) (p : Int) {S : LSt} (h : Inv W S 80 80) (hW : 20 ≤ W ∧ W ≤ 80) (hw : 0 ≤ w ∧ w ≤ 3) : s2 (bIs S (yOf a p).2.2 (wnt w)) W.toNat (S.1 + 1).toNat = hdA a p W w S := by
  unfold hdA brA
  rcases (show w = 0 ∨ w = 1 ∨ w = 2 ∨ w = 3 by omega) with rfl | rfl | rfl | rfl
  · rw [if_pos rfl]
    exact bIs_text _ h 0 (Or.inl rfl) (by omega)
  · rw [if_neg (by decide), if_pos rfl]
    exact bIs_text _ h 1 (Or.inr rfl) (by omega)
  · rw [if_neg (by decide), if_neg (by decide), if_pos rfl]
    exact bIs_bar _ hW
  · rw [if_neg (by decide), if_neg (by decide), if_neg (by decide)]
    exact bIs_space _ h hW
