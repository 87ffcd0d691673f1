/-! the lines: what they are -/
abbrev PcV : Type := Int × Int × Int × Int × Int
abbrev LSt : Type := Int × Int × Int × (Int → PcV) × (Int → Int → Int)
def sLine (H : Int) (S : LSt) : LSt := (S.1 + 1, H, S.2.2)
def sAt (S : LSt) (c : Int) : LSt := (S.1, c, S.2.2)
def sSeg (S : LSt) (len lead src : Int) : LSt := (S.1, S.2.1 + len, S.2.2.1 + 1, (fun i => if i = S.2.2.1 then (S.1, S.2.1, len, lead, src) else S.2.2.2.1 i), S.2.2.2.2)
def fiF (F : Int → Int → Int) (cur v : Int) : Int → Int → Int := fun f w => if f = cur ∧ w = 2 then v else F f w
def sFill (cur : Int) (S : LSt) : LSt := if S.2.2.2.2 cur 0 = S.1 then (S.1, S.2.1, S.2.2.1, S.2.2.2.1, fiF S.2.2.2.2 cur (S.2.1 - S.2.2.2.2 cur 1)) else S
def bgF (F : Int → Int → Int) (cur row c pos kd mn : Int) : Int → Int → Int := fun f w => if f = cur then (if w = 0 then row else if w = 1 then c else if w = 2 then 0 else if w = 3 then pos else if w = 4 then kd else mn) else F f w
def sBeg (cur : Int) (S : LSt) (pos kd mn : Int) : LSt := (S.1, S.2.1, S.2.2.1, S.2.2.2.1, bgF S.2.2.2.2 cur S.1 S.2.1 pos kd mn)
def pcL (W c r : Int) : Int := if (if 1 < W - c then W - c else 1) < r then (if 1 < W - c then W - c else 1) else r
def sPc (W cur e : Int) (S : LSt) (r : Int) : LSt := sFill cur (sSeg S (pcL W S.2.1 r) 0 (e - r))
def sPl (W H cur e : Int) : Nat → LSt → Int → LSt
  | 0, S, _ => S
  | n + 1, S, r => if 0 < r then (if 0 < r - pcL W S.2.1 r then sPl W H cur e n (sLine H (sPc W cur e S r)) (r - pcL W S.2.1 r) else sPc W cur e S r) else S
def sGap (W H l : Int) (S : LSt) : LSt := if S.2.1 + 1 + l ≤ W then sAt S (S.2.1 + 1) else sLine H S
def sFl (W H cur : Int) (st ln : Int → Int) (a : Int) : Nat → Int → LSt → LSt
  | 0, _, S => S
  | n + 1, w, S => sFl W H cur st ln a n (w + 1) (sPl W H cur (st w + ln w) (ln w).toNat (if a < w then sGap W H (ln w) S else S) (ln w))
abbrev RV : Type := Int × Int × Int
def sRn (ln pt : Int → Int) (room a : Int) : Nat → Int → RV → RV
  | 0, _, t => t
  | n + 1, w, t => if room < (if w = a then 0 else t.2.1 + 1) + ln w then t else sRn ln pt room a n (w + 1) (w + 1, (if w = a then 0 else t.2.1 + 1) + ln w, if t.2.2 = -1 ∧ pt w ≠ -1 then (if w = a then 0 else t.2.1 + 1) + pt w else t.2.2)
def sRun (ln pt : Int → Int) (room a b : Int) : RV := ((sRn ln pt room a (b - a).toNat a (a, 0, -1)).1, (sRn ln pt room a (b - a).toNat a (a, 0, -1)).2.1, if (sRn ln pt room a (b - a).toNat a (a, 0, -1)).2.2 = -1 then (sRn ln pt room a (b - a).toNat a (a, 0, -1)).2.1 else (sRn ln pt room a (b - a).toNat a (a, 0, -1)).2.2)
def rAh (kd : Int) (t : RV) : Int := if kd = 1 then t.2.1 else if kd = 2 then t.2.1 / 2 else if kd = 3 then t.2.2 else 0
def rB (W c pos kd : Int) (t : RV) : Int := if pos - rAh kd t < c then c else if W < pos - rAh kd t + t.2.1 then W - t.2.1 else pos - rAh kd t
def rM (W c pos kd : Int) (t : RV) : Int := if pos - rAh kd t < c then 1 else if W < pos - rAh kd t + t.2.1 then 2 else 0
def sSt (W cur pos kd ld : Int) (t : RV) (S : LSt) : LSt := sBeg cur (if ld ≠ 0 ∧ S.2.1 < rB W S.2.1 pos kd t then sSeg S (rB W S.2.1 pos kd t - S.2.1) ld 0 else sAt S (rB W S.2.1 pos kd t)) pos kd (rM W S.2.1 pos kd t)
def bhG (g : Int → Int) (c : Int) : Nat → Int
  | 0 => -9
  | n + 1 => if bhG g c n ≠ -9 then bhG g c n else if c < (n : Int) + 1 ∧ g ((n : Int) + 1) ≠ 0 ∧ g ((n : Int) + 1) ≤ 16 then (n : Int) + 1 else -9
def tPos (g : Int → Int) (D c : Int) : Int := if bhG g c 80 = -9 then dfl D c else bhG g c 80
def tKd (g : Int → Int) (c : Int) : Int := if bhG g c 80 = -9 then 0 else (g (bhG g c 80) - 1) / 4
def tLd (g : Int → Int) (c : Int) : Int := if bhG g c 80 = -9 then 0 else (g (bhG g c 80) - 1) % 4
def tRun (W D : Int) (g ln pt : Int → Int) (a b c : Int) : RV := sRun ln pt (W - (if tKd g c = 0 then tPos g D c else c)) a b
def sTab (W D H : Int) (g st ln pt : Int → Int) (cur a b : Int) (S : LSt) : LSt :=
  if W < tPos g D S.2.1 ∨ (a < b ∧ (tRun W D g ln pt a b S.2.1).1 = a) then sFl W H cur st ln a (b - a).toNat a (sBeg cur (sLine H S) (-9) (-9) (-9))
  else if (tRun W D g ln pt a b S.2.1).1 < b then sFl W H cur st ln (tRun W D g ln pt a b S.2.1).1 (b - (tRun W D g ln pt a b S.2.1).1).toNat (tRun W D g ln pt a b S.2.1).1 (sLine H (sFl W H cur st ln a ((tRun W D g ln pt a b S.2.1).1 - a).toNat a (sSt W cur (tPos g D S.2.1) (tKd g S.2.1) (tLd g S.2.1) (tRun W D g ln pt a b S.2.1) S)))
  else sFl W H cur st ln a ((tRun W D g ln pt a b S.2.1).1 - a).toNat a (sSt W cur (tPos g D S.2.1) (tKd g S.2.1) (tLd g S.2.1) (tRun W D g ln pt a b S.2.1) S)
def sFd (W D H : Int) (g : Int → Int) (T : TW) (cur : Int) (S : LSt) : LSt :=
  if cur = 0 then sFl W H cur T.2.2.2.1 T.2.2.2.2.1 (fF T.2.2.2.2.2.2 cur) (T.2.2.2.2.2.2 cur - fF T.2.2.2.2.2.2 cur).toNat (fF T.2.2.2.2.2.2 cur) (sBeg cur S (-9) (-9) (-9))
  else sTab W D H g T.2.2.2.1 T.2.2.2.2.1 T.2.2.2.2.2.1 cur (fF T.2.2.2.2.2.2 cur) (T.2.2.2.2.2.2 cur) S
def sFs (W D H : Int) (g : Int → Int) (T : TW) : Nat → LSt → LSt
  | 0, S => S
  | n + 1, S => sFd W D H g T n (sFs W D H g T n S)
/-- the lines of a paragraph v in style y -/
def layS (W D : Int) (y v : YV) : LSt := sFs W D y.2.1 y.2.2 (wdT v) (wdT v).2.2.1.toNat (0, y.1, 0, (fun _ => (0, 0, 0, 0, 0)), fun _ _ => 0)
theorem BehR.G {g : Int → Int} {c z : Int} (hc : 0 ≤ c) (h : BehR g c z) : z = bhG g c 80 := by
  have hlow : ∀ n : Nat, (∀ p : Int, TabF g p → c < p → ¬ (p ≤ n)) → n ≤ 80 → bhG g c n = -9 := by
    intro n
    induction n with
    | zero => intros; rfl
    | succ n ih =>
      intro h1 h2
      have h3 := ih (fun p hp hcp hpn => h1 p hp hcp (by omega)) (by omega)
      show (if bhG g c n ≠ -9 then bhG g c n else if c < (n : Int) + 1 ∧ g ((n : Int) + 1) ≠ 0 ∧ g ((n : Int) + 1) ≤ 16 then (n : Int) + 1 else -9) = -9
      rw [if_neg (by omega), if_neg (fun q => h1 ((n : Int) + 1) ⟨by omega, by omega, q.2⟩ q.1 (by omega))]
  rcases h with ⟨h1, h2, h3⟩ | ⟨h1, h2⟩
  · have hup : ∀ n : Nat, z ≤ n → bhG g c n = z := by
      intro n
      induction n with
      | zero => intro hz; have := h1.1; omega
      | succ n ih =>
        intro hz
        show (if bhG g c n ≠ -9 then bhG g c n else if c < (n : Int) + 1 ∧ g ((n : Int) + 1) ≠ 0 ∧ g ((n : Int) + 1) ≤ 16 then (n : Int) + 1 else -9) = z
        have hz1 := h1.1
        have hz2 := h1.2.1
        by_cases hzn : z ≤ n
        · rw [ih hzn, if_pos (by omega)]
        · rw [hlow n (fun p hp hcp hpn => by have := h3 p hp hcp; omega) (by omega), if_neg (by omega), show (n : Int) + 1 = z by omega, if_pos ⟨h2, h1.2.2⟩]
    exact (hup 80 h1.2.1).symm
  · rw [h1]
    exact (hlow 80 (fun p hp hcp => by have := h2 p hp; omega) (Nat.le_refl _)).symm
theorem bhG_R {g : Int → Int} {c : Int} : (bhG g c 80 = -9 ∧ ∀ p : Int, TabF g p → p ≤ c) ∨ (TabF g (bhG g c 80) ∧ c < bhG g c 80 ∧ ∀ p : Int, TabF g p → c < p → bhG g c 80 ≤ p) := by
  have h : ∀ n : Nat, n ≤ 80 → (bhG g c n = -9 ∧ ∀ p : Int, TabF g p → p ≤ n → p ≤ c) ∨ (TabF g (bhG g c n) ∧ c < bhG g c n ∧ ∀ p : Int, TabF g p → c < p → bhG g c n ≤ p) := by
    intro n
    induction n with
    | zero => intro _; exact Or.inl ⟨rfl, fun p hp h => by have := hp.1; omega⟩
    | succ n ih =>
      intro hn
      have e : bhG g c (n + 1) = if bhG g c n ≠ -9 then bhG g c n else if c < (n : Int) + 1 ∧ g ((n : Int) + 1) ≠ 0 ∧ g ((n : Int) + 1) ≤ 16 then (n : Int) + 1 else -9 := rfl
      rcases ih (by omega) with ⟨h1, h2⟩ | h1
      · rw [if_neg (by omega)] at e
        by_cases hc : c < (n : Int) + 1 ∧ g ((n : Int) + 1) ≠ 0 ∧ g ((n : Int) + 1) ≤ 16
        · rw [if_pos hc] at e
          rw [e]
          exact Or.inr ⟨⟨by omega, by omega, hc.2⟩, hc.1, fun p hp hcp => by
            by_cases hpn : p ≤ n
            · have := h2 p hp hpn; omega
            · omega⟩
        · rw [if_neg hc] at e
          rw [e]
          refine Or.inl ⟨rfl, fun p hp hpn => ?_⟩
          by_cases hp1 : p = (n : Int) + 1
          · by_cases hcp : c < p
            · exfalso
              rw [hp1] at hp hcp
              exact hc ⟨hcp, hp.2.2⟩
            · omega
          · exact h2 p hp (by omega)
      · have hz := h1.1.1
        rw [if_pos (by omega)] at e
        rw [e]
        exact Or.inr h1
  rcases h 80 (Nat.le_refl _) with h | h
  · exact Or.inl ⟨h.1, fun p hp => h.2 p hp hp.2.1⟩
  · exact Or.inr h
/-! what always holds of the lines -/
def Inv (W : Int) (S : LSt) (kr kp : Int) : Prop := (0 ≤ S.1 ∧ S.1 ≤ kr) ∧ (0 ≤ S.2.1 ∧ S.2.1 ≤ W) ∧ (0 ≤ S.2.2.1 ∧ S.2.2.1 ≤ kp) ∧
  (∀ i : Int, 0 ≤ i → i < S.2.2.1 → (0 ≤ (S.2.2.2.1 i).1 ∧ (S.2.2.2.1 i).1 ≤ S.1) ∧ 0 ≤ (S.2.2.2.1 i).2.1 ∧ 0 ≤ (S.2.2.2.1 i).2.2.1 ∧ (S.2.2.2.1 i).2.1 + (S.2.2.2.1 i).2.2.1 ≤ W ∧ ((S.2.2.2.1 i).1 = S.1 → (S.2.2.2.1 i).2.1 + (S.2.2.2.1 i).2.2.1 ≤ S.2.1)) ∧
  ∀ i j : Int, 0 ≤ i → i < j → j < S.2.2.1 → (S.2.2.2.1 i).1 < (S.2.2.2.1 j).1 ∨ ((S.2.2.2.1 i).1 = (S.2.2.2.1 j).1 ∧ (S.2.2.2.1 i).2.1 + (S.2.2.2.1 i).2.2.1 ≤ (S.2.2.2.1 j).2.1)
theorem Inv.le {W : Int} {S : LSt} {kr kp kr1 kp1 : Int} (h : Inv W S kr kp) (h1 : kr ≤ kr1) (h2 : kp ≤ kp1) : Inv W S kr1 kp1 := ⟨by have := h.1; omega, h.2.1, by have := h.2.2.1; omega, h.2.2.2⟩
theorem Inv.line {W H : Int} {S : LSt} {kr kp : Int} (h : Inv W S kr kp) (hH : 0 ≤ H ∧ H ≤ W) : Inv W (sLine H S) (kr + 1) kp := by
  have h1 := h.1
  refine ⟨by show 0 ≤ S.1 + 1 ∧ S.1 + 1 ≤ kr + 1; omega, hH, h.2.2.1, fun i i1 i2 => ?_, h.2.2.2.2⟩
  have h2 := h.2.2.2.1 i i1 i2
  exact ⟨by show 0 ≤ (S.2.2.2.1 i).1 ∧ (S.2.2.2.1 i).1 ≤ S.1 + 1; omega, h2.2.1, h2.2.2.1, h2.2.2.2.1, fun q => by have q : (S.2.2.2.1 i).1 = S.1 + 1 := q; omega⟩
theorem Inv.at {W : Int} {S : LSt} {kr kp c : Int} (h : Inv W S kr kp) (hc : S.2.1 ≤ c ∧ c ≤ W) : Inv W (sAt S c) kr kp := by
  have h1 := h.2.1
  refine ⟨h.1, by show 0 ≤ c ∧ c ≤ W; omega, h.2.2.1, fun i i1 i2 => ?_, h.2.2.2.2⟩
  have h2 := h.2.2.2.1 i i1 i2
  exact ⟨h2.1, h2.2.1, h2.2.2.1, h2.2.2.2.1, fun q => Int.le_trans (h2.2.2.2.2 q) hc.1⟩
theorem Inv.seg {W : Int} {S : LSt} {kr kp l d s : Int} (h : Inv W S kr kp) (hl : 0 ≤ l ∧ S.2.1 + l ≤ W) : Inv W (sSeg S l d s) kr (kp + 1) := by
  have h1 := h.2.1
  have h3 := h.2.2.1
  have h0 := h.1
  have eO : ∀ i : Int, i < S.2.2.1 → (sSeg S l d s).2.2.2.1 i = S.2.2.2.1 i := fun i hi => if_neg (by omega)
  have eN : (sSeg S l d s).2.2.2.1 S.2.2.1 = (S.1, S.2.1, l, d, s) := if_pos rfl
  refine ⟨h.1, by show 0 ≤ S.2.1 + l ∧ S.2.1 + l ≤ W; omega, by show 0 ≤ S.2.2.1 + 1 ∧ S.2.2.1 + 1 ≤ kp + 1; omega, fun i i1 i2 => ?_, fun i j i1 ij j2 => ?_⟩
  · have i2 : i < S.2.2.1 + 1 := i2
    by_cases hi : i = S.2.2.1
    · rw [hi, eN]
      exact ⟨by show 0 ≤ S.1 ∧ S.1 ≤ S.1; omega, h1.1, hl.1, hl.2, fun _ => Int.le_refl _⟩
    · rw [eO i (by omega)]
      have h2 := h.2.2.2.1 i i1 (by omega)
      exact ⟨h2.1, h2.2.1, h2.2.2.1, h2.2.2.2.1, fun q => Int.le_trans (h2.2.2.2.2 q) (show S.2.1 ≤ S.2.1 + l by omega)⟩
  · have j2 : j < S.2.2.1 + 1 := j2
    rw [eO i (by omega)]
    by_cases hj : j = S.2.2.1
    · rw [hj, eN]
      have h2 := h.2.2.2.1 i i1 (by omega)
      by_cases hr : (S.2.2.2.1 i).1 = S.1
      · exact Or.inr ⟨hr, h2.2.2.2.2 hr⟩
      · exact Or.inl (by show (S.2.2.2.1 i).1 < S.1; omega)
    · rw [eO j (by omega)]
      exact h.2.2.2.2 i j i1 ij (by omega)
theorem sFill_same (cur : Int) (S : LSt) : (sFill cur S).1 = S.1 ∧ (sFill cur S).2.1 = S.2.1 ∧ (sFill cur S).2.2.1 = S.2.2.1 ∧ (sFill cur S).2.2.2.1 = S.2.2.2.1 := by
  unfold sFill
  split <;> exact ⟨rfl, rfl, rfl, rfl⟩
theorem Inv.fill {W : Int} {S : LSt} {kr kp : Int} (cur : Int) (h : Inv W S kr kp) : Inv W (sFill cur S) kr kp := by
  have e := sFill_same cur S
  unfold Inv
  rw [e.1, e.2.1, e.2.2.1, e.2.2.2]
  exact h
theorem Inv.beg {W : Int} {S : LSt} {kr kp : Int} (cur p k m : Int) (h : Inv W S kr kp) : Inv W (sBeg cur S p k m) kr kp := h
theorem pcL_in {W c r : Int} (hc : 0 ≤ c ∧ c < W) (hr : 1 ≤ r) : 1 ≤ pcL W c r ∧ pcL W c r ≤ r ∧ c + pcL W c r ≤ W ∧ (pcL W c r < r → c + pcL W c r = W) := by
  unfold pcL
  split <;> (split <;> omega)
theorem Inv.pl {W H cur e : Int} (hH : 0 ≤ H ∧ H < W) : ∀ (n : Nat) (S : LSt) (r kr kp : Int), Inv W S kr kp → S.2.1 < W → 1 ≤ r → r ≤ n → Inv W (sPl W H cur e n S r) (kr + r - 1) (kp + r)
  | 0, S, r, kr, kp, h, hc, h1, h2 => by omega
  | n + 1, S, r, kr, kp, h, hc, h1, h2 => by
    have hL := pcL_in (W := W) (c := S.2.1) (r := r) ⟨h.2.1.1, hc⟩ h1
    have hs := (h.seg (l := pcL W S.2.1 r) (d := 0) (s := e - r) ⟨by omega, hL.2.2.1⟩).fill cur
    show Inv W (if 0 < r then (if 0 < r - pcL W S.2.1 r then sPl W H cur e n (sLine H (sPc W cur e S r)) (r - pcL W S.2.1 r) else sPc W cur e S r) else S) _ _
    rw [if_pos (show 0 < r by omega)]
    by_cases hg : 0 < r - pcL W S.2.1 r
    · rw [if_pos hg]
      have hs2 : Inv W (sLine H (sPc W cur e S r)) (kr + 1) (kp + 1) := hs.line ⟨hH.1, by omega⟩
      exact (Inv.pl hH n _ (r - pcL W S.2.1 r) _ _ hs2 (by show H < W; omega) (by omega) (by omega)).le (by omega) (by omega)
    · rw [if_neg hg]
      exact hs.le (by omega) (by omega)
theorem Inv.gap {W H l kr kp : Int} {S : LSt} (h : Inv W S kr kp) (hH : 0 ≤ H ∧ H < W) (hl : 1 ≤ l) : Inv W (sGap W H l S) (kr + 1) kp ∧ (sGap W H l S).2.1 < W := by
  unfold sGap
  have h1 := h.2.1
  by_cases hg : S.2.1 + 1 + l ≤ W
  · rw [if_pos hg]
    exact ⟨(h.at (c := S.2.1 + 1) (by omega)).le (by omega) (by omega), by show S.2.1 + 1 < W; omega⟩
  · rw [if_neg hg]
    exact ⟨h.line ⟨hH.1, by omega⟩, hH.2⟩
theorem Inv.fl {W H cur : Int} {st ln ch : Int → Int} {a b to : Int} (hH : 0 ≤ H ∧ H < W) (hW : ∀ w : Int, a ≤ w → w < b → Wk st ln ch to b w) : ∀ (n : Nat) (w : Int) (S : LSt) (k : Int), w + n = b → a ≤ w → Inv W S k k → k ≤ to → (w < b → k ≤ st w ∧ (a < w → k < st w) ∧ (w = a → S.2.1 < W)) → Inv W (sFl W H cur st ln a n w S) to to
  | 0, w, S, k, h0, h1, h2, h3, h4 => h2.le h3 h3
  | n + 1, w, S, k, h0, h1, h2, h3, h4 => by
    have hw := hW w h1 (by omega)
    have h4 := h4 (by omega)
    show Inv W (sFl W H cur st ln a n (w + 1) (sPl W H cur (st w + ln w) (ln w).toNat (if a < w then sGap W H (ln w) S else S) (ln w))) to to
    have hS : Inv W (if a < w then sGap W H (ln w) S else S) (st w) (st w) ∧ (if a < w then sGap W H (ln w) S else S).2.1 < W := by
      by_cases haw : a < w
      · rw [if_pos haw]
        have := h2.gap (l := ln w) hH hw.1.1
        have hk := h4.2.1 haw
        exact ⟨this.1.le (by omega) (by omega), this.2⟩
      · rw [if_neg haw]
        exact ⟨h2.le h4.1 h4.1, h4.2.2 (by omega)⟩
    have hp := Inv.pl (cur := cur) (e := st w + ln w) hH (ln w).toNat _ (ln w) _ _ hS.1 hS.2 hw.1.1 (by omega)
    refine Inv.fl hH hW n (w + 1) _ (st w + ln w) (by omega) (by omega) (hp.le (by omega) (by omega)) hw.1.2.2 (fun hwb => ?_)
    have := hw.2.2.1 hwb
    exact ⟨by omega, fun _ => this, fun q => by omega⟩
theorem sRn_bd {ln pt : Int → Int} {room a b : Int} (hl : ∀ w : Int, a ≤ w → w < b → 1 ≤ ln w ∧ -1 ≤ pt w ∧ pt w ≤ ln w) : ∀ (n : Nat) (w : Int) (t : RV), w + n = b → a ≤ w → t.1 = w → (w = a → t.2.1 = 0 ∧ t.2.2 = -1) → (a < w → 1 ≤ t.2.1 ∧ t.2.1 ≤ room) → (-1 ≤ t.2.2 ∧ t.2.2 ≤ t.2.1) →
    (a ≤ (sRn ln pt room a n w t).1 ∧ (sRn ln pt room a n w t).1 ≤ b) ∧ ((sRn ln pt room a n w t).1 = a → (sRn ln pt room a n w t).2.1 = 0 ∧ (sRn ln pt room a n w t).2.2 = -1) ∧ (a < (sRn ln pt room a n w t).1 → 1 ≤ (sRn ln pt room a n w t).2.1 ∧ (sRn ln pt room a n w t).2.1 ≤ room) ∧ (-1 ≤ (sRn ln pt room a n w t).2.2 ∧ (sRn ln pt room a n w t).2.2 ≤ (sRn ln pt room a n w t).2.1)
  | 0, w, t, h0, h1, h2, h3, h4, h5 => by
    show (a ≤ t.1 ∧ t.1 ≤ b) ∧ (t.1 = a → t.2.1 = 0 ∧ t.2.2 = -1) ∧ (a < t.1 → 1 ≤ t.2.1 ∧ t.2.1 ≤ room) ∧ (-1 ≤ t.2.2 ∧ t.2.2 ≤ t.2.1)
    rw [h2]
    exact ⟨by omega, h3, h4, h5⟩
  | n + 1, w, t, h0, h1, h2, h3, h4, h5 => by
    have hw := hl w h1 (by omega)
    unfold sRn
    by_cases hr : room < (if w = a then 0 else t.2.1 + 1) + ln w
    · rw [if_pos hr, h2]
      exact ⟨by omega, h3, h4, h5⟩
    · rw [if_neg hr]
      have hs : 0 ≤ (if w = a then 0 else t.2.1 + 1) ∧ (t.2.1 ≤ (if w = a then 0 else t.2.1 + 1)) := by
        by_cases hwa : w = a
        · rw [if_pos hwa]
          have := h3 hwa
          omega
        · rw [if_neg hwa]
          have := h4 (by omega)
          omega
      refine sRn_bd hl n (w + 1) _ (by omega) (by omega) rfl (fun q => by omega) (fun _ => ?_) ?_
      · show 1 ≤ (if w = a then 0 else t.2.1 + 1) + ln w ∧ (if w = a then 0 else t.2.1 + 1) + ln w ≤ room
        omega
      · show -1 ≤ (if t.2.2 = -1 ∧ pt w ≠ -1 then (if w = a then 0 else t.2.1 + 1) + pt w else t.2.2) ∧ (if t.2.2 = -1 ∧ pt w ≠ -1 then (if w = a then 0 else t.2.1 + 1) + pt w else t.2.2) ≤ (if w = a then 0 else t.2.1 + 1) + ln w
        by_cases hp : t.2.2 = -1 ∧ pt w ≠ -1
        · rw [if_pos hp]
          omega
        · rw [if_neg hp]
          omega
theorem sRun_bd {ln pt : Int → Int} {room a b : Int} (hab : a ≤ b) (hl : ∀ w : Int, a ≤ w → w < b → 1 ≤ ln w ∧ -1 ≤ pt w ∧ pt w ≤ ln w) :
    (a ≤ (sRun ln pt room a b).1 ∧ (sRun ln pt room a b).1 ≤ b) ∧ ((sRun ln pt room a b).1 = a → (sRun ln pt room a b).2.1 = 0 ∧ (sRun ln pt room a b).2.2 = 0) ∧ (a < (sRun ln pt room a b).1 → 1 ≤ (sRun ln pt room a b).2.1 ∧ (sRun ln pt room a b).2.1 ≤ room) ∧ (0 ≤ (sRun ln pt room a b).2.2 ∧ (sRun ln pt room a b).2.2 ≤ (sRun ln pt room a b).2.1) := by
  have h := sRn_bd (room := room) hl (b - a).toNat a (a, 0, -1) (by omega) (Int.le_refl _) rfl (fun _ => ⟨rfl, rfl⟩) (fun q => by omega) (by show (-1 : Int) ≤ -1 ∧ (-1 : Int) ≤ 0; omega)
  unfold sRun
  generalize sRn ln pt room a (b - a).toNat a (a, 0, -1) = t at h ⊢
  dsimp only
  refine ⟨h.1, fun q => ?_, h.2.2.1, ?_⟩
  · have := h.2.1 q
    rw [if_pos this.2]
    exact ⟨this.1, this.1⟩
  · by_cases hp : t.2.2 = -1
    · rw [if_pos hp]
      have h1 := h.1
      by_cases ha : t.1 = a
      · have := h.2.1 ha; omega
      · have := h.2.2.1 (by omega); omega
    · rw [if_neg hp]
      have := h.2.2.2
      omega
theorem dfl_bd {D c : Int} (hD : 2 ≤ D ∧ D ≤ 20) : c < dfl D c ∧ dfl D c ≤ c + D := by
  have h1 := Int.mul_ediv_add_emod c D
  have h2 := Int.emod_nonneg c (show D ≠ 0 by omega)
  have h3 := Int.emod_lt_of_pos c (show 0 < D by omega)
  have h4 : dfl D c = D * (c / D) + D := by
    unfold dfl
    rw [Int.mul_comm, Int.mul_add, Int.mul_one]
  omega
theorem tPos_bd {g : Int → Int} {D c : Int} (hD : 2 ≤ D ∧ D ≤ 20) (hc : 0 ≤ c) (hg : SV g) : (c < tPos g D c ∧ (tPos g D c ≤ 80 ∨ tPos g D c ≤ c + 20)) ∧ (0 ≤ tKd g c ∧ tKd g c ≤ 3) ∧ (0 ≤ tLd g c ∧ tLd g c ≤ 3) := by
  have hd := dfl_bd (c := c) hD
  unfold tPos tKd tLd
  rcases bhG_R (g := g) (c := c) with h | h
  · rw [if_pos h.1, if_pos h.1, if_pos h.1]
    omega
  · have h1 := h.1
    have h2 := h1.1
    have h3 := h1.2.1
    have h4 := h1.2.2
    have h5 := hg _ h2 h3
    rw [if_neg (by omega), if_neg (by omega), if_neg (by omega)]
    omega
/-- a field's words with their points -/
def Fp (ch st ln pt : Int → Int) (fr to a b : Int) : Prop := Fk st ln ch fr to a b ∧ ∀ w : Int, a ≤ w → w < b → PtOk ch (st w) (ln w) (pt w)
theorem Fp.ln {ch st ln pt : Int → Int} {fr to a b : Int} (h : Fp ch st ln pt fr to a b) : ∀ w : Int, a ≤ w → w < b → 1 ≤ ln w ∧ -1 ≤ pt w ∧ pt w ≤ ln w := by
  intro w w1 w2
  have h1 := (h.1.2.2.2 w w1 w2).1.1
  have h2 := h.2 w w1 w2
  rcases h2 with q | q <;> omega
theorem Wk.sub {st ln ch : Int → Int} {to b w e : Int} (h : Wk st ln ch to b w) (hwe : w < e) (he : e ≤ b) (hto : e = w + 1 ∨ st w + ln w ≤ st (e - 1) + ln (e - 1)) : Wk st ln ch (st (e - 1) + ln (e - 1)) e w := by
  have hee : e = w + 1 → e - 1 = w := fun q => by omega
  refine ⟨⟨h.1.1, h.1.2.1, ?_⟩, h.2.1, fun q => h.2.2.1 (by omega), ⟨fun q => h.2.2.2.1 (by omega), fun q => ?_⟩⟩
  · rcases hto with q | q
    · rw [hee q]; exact Int.le_refl _
    · exact q
  · rw [hee q.symm]
    exact ⟨Int.le_refl _, fun x x1 x2 => by omega⟩
theorem Fk.mono {st ln ch : Int → Int} {fr to a b : Int} (h : Fk st ln ch fr to a b) : ∀ (n : Nat) (w : Int), a ≤ w → w + n < b → st w + ln w ≤ st (w + n) + ln (w + n)
  | 0, w, h1, h2 => by rw [show w + ((0 : Nat) : Int) = w by omega]; exact Int.le_refl _
  | n + 1, w, h1, h2 => by
    have h3 := h.mono n w h1 (by omega)
    have h4 := (h.2.2.2 (w + n) (by omega) (by omega)).2.2.1 (by omega)
    have h5 := (h.2.2.2 (w + n + 1) (by omega) (by omega)).1.1
    rw [show w + ((n + 1 : Nat) : Int) = w + n + 1 by omega]
    omega
/-- the first words of a field up to e, ending with the last of them -/
theorem Fk.sub {st ln ch : Int → Int} {fr to a b e : Int} (h : Fk st ln ch fr to a b) (hae : a < e) (heb : e ≤ b) : Fk st ln ch fr (st (e - 1) + ln (e - 1)) a e ∧ st (e - 1) + ln (e - 1) ≤ to := by
  refine ⟨⟨by omega, h.2.1, ⟨fun q => h.2.2.1.1 (by omega), fun q => by omega⟩, fun w w1 w2 => ?_⟩, (h.2.2.2 (e - 1) (by omega) (by omega)).1.2.2⟩
  refine (h.2.2.2 w w1 (by omega)).sub w2 heb ?_
  have := h.mono (e - 1 - w).toNat w w1 (by omega)
  rw [show w + ((e - 1 - w).toNat : Int) = e - 1 by omega] at this
  exact Or.inr this
theorem rB_in {W c pos kd D : Int} {t : RV} {a : Int} (hc : 0 ≤ c ∧ c ≤ W) (hp : c < pos ∧ pos ≤ W) (ht : (a ≤ t.1) ∧ (t.1 = a → t.2.1 = 0 ∧ t.2.2 = 0) ∧ (a < t.1 → 1 ≤ t.2.1 ∧ t.2.1 ≤ W - (if kd = 0 then pos else c)) ∧ (0 ≤ t.2.2 ∧ t.2.2 ≤ t.2.1)) : c ≤ rB W c pos kd t ∧ rB W c pos kd t + t.2.1 ≤ W ∧ 0 ≤ t.2.1 := by
  have h0 : 0 ≤ t.2.1 ∧ t.2.1 ≤ W - (if kd = 0 then pos else c) := by
    by_cases ha : t.1 = a
    · have := ht.2.1 ha
      split <;> omega
    · exact ⟨by have := ht.2.2.1 (by omega); omega, (ht.2.2.1 (by omega)).2⟩
  unfold rB
  by_cases hk : kd = 0
  · have e : rAh kd t = 0 := by
      unfold rAh
      rw [if_neg (by omega), if_neg (by omega), if_neg (by omega)]
    rw [if_pos hk] at h0
    rw [e, if_neg (by omega), if_neg (by omega)]
    omega
  · rw [if_neg hk] at h0
    by_cases h1 : pos - rAh kd t < c
    · rw [if_pos h1]
      omega
    · rw [if_neg h1]
      by_cases h2 : W < pos - rAh kd t + t.2.1
      · rw [if_pos h2]
        omega
      · rw [if_neg h2]
        omega
theorem sSt_c (W cur pos kd ld : Int) (t : RV) (S : LSt) : (sSt W cur pos kd ld t S).2.1 = rB W S.2.1 pos kd t := by
  unfold sSt sBeg
  dsimp only
  split
  · show S.2.1 + (rB W S.2.1 pos kd t - S.2.1) = _
    omega
  · rfl
theorem Inv.st {W cur pos kd ld : Int} {t : RV} {S : LSt} {kr kp : Int} (h : Inv W S kr kp) (hB : S.2.1 ≤ rB W S.2.1 pos kd t ∧ rB W S.2.1 pos kd t ≤ W) : Inv W (sSt W cur pos kd ld t S) kr (kp + 1) := by
  unfold sSt
  refine Inv.beg cur _ _ _ ?_
  by_cases hl : ld ≠ 0 ∧ S.2.1 < rB W S.2.1 pos kd t
  · rw [if_pos hl]
    exact h.seg (by omega)
  · rw [if_neg hl]
    exact (h.at hB).le (Int.le_refl _) (by omega)
theorem Inv.tab {W D H cur : Int} {g ch st ln pt : Int → Int} {fr to a b k : Int} {S : LSt} (hH : 0 ≤ H ∧ H < W) (hD : 2 ≤ D ∧ D ≤ 20) (hg : SV g) (hF : Fp ch st ln pt fr to a b) (h : Inv W S k k) (hk : k + 1 ≤ fr) : Inv W (sTab W D H g st ln pt cur a b S) to to := by
  have hFb := hF.1.bd
  have hab := hF.1.1
  have hp := tPos_bd (c := S.2.1) hD h.2.1.1 hg
  have hr : ∀ room, _ := fun room => sRun_bd (room := room) hab hF.ln
  have hr := hr (W - (if tKd g S.2.1 = 0 then tPos g D S.2.1 else S.2.1))
  have er : sRun ln pt (W - (if tKd g S.2.1 = 0 then tPos g D S.2.1 else S.2.1)) a b = tRun W D g ln pt a b S.2.1 := rfl
  rw [er] at hr
  unfold sTab
  generalize tRun W D g ln pt a b S.2.1 = t at hr ⊢
  by_cases hb : W < tPos g D S.2.1 ∨ (a < b ∧ t.1 = a)
  · rw [if_pos hb]
    refine Inv.fl hH hF.1.2.2.2 _ a _ (k + 1) (by omega) (Int.le_refl _) (((h.line (H := H) ⟨hH.1, by omega⟩).le (Int.le_refl _) (by omega)).beg cur _ _ _) (by omega) (fun q => ⟨?_, fun q => by omega, fun _ => hH.2⟩)
    have := (hF.1.2.2.1.1 q).1
    omega
  · rw [if_neg hb]
    have hB := rB_in (D := D) (c := S.2.1) (kd := tKd g S.2.1) (t := t) (a := a) h.2.1 ⟨hp.1.1, by omega⟩ ⟨hr.1.1, hr.2.1, hr.2.2.1, hr.2.2.2⟩
    have h1 := (h.st (cur := cur) (ld := tLd g S.2.1) (t := t) (pos := tPos g D S.2.1) (kd := tKd g S.2.1) ⟨hB.1, by omega⟩).le (kr1 := k + 1) (kp1 := k + 1) (by omega) (Int.le_refl _)
    have hc1 := sSt_c W cur (tPos g D S.2.1) (tKd g S.2.1) (tLd g S.2.1) t S
    generalize sSt W cur (tPos g D S.2.1) (tKd g S.2.1) (tLd g S.2.1) t S = S1 at h1 hc1 ⊢
    by_cases hra : t.1 = a
    · have hbb : a = b := by omega
      rw [hra, if_neg (by omega), show (a - a).toNat = 0 by omega]
      exact h1.le (by omega) (by omega)
    · have hs := hF.1.sub (e := t.1) (by omega) hr.1.2
      have h2 := Inv.fl (cur := cur) hH hs.1.2.2.2 (t.1 - a).toNat a S1 (k + 1) (by omega) (Int.le_refl _) h1 (by have := hs.1.bd; omega) (fun q => ⟨by have := (hs.1.2.2.1.1 q).1; omega, fun q => by omega, fun _ => by have := hr.2.2.1 (by omega); omega⟩)
      by_cases hre : t.1 < b
      · rw [if_pos hre]
        have hw := hF.1.2.2.2 (t.1 - 1) (by omega) (by omega)
        have hsep := hw.2.2.1 (by omega)
        rw [show t.1 - 1 + 1 = t.1 by omega] at hsep
        have hwr := hF.1.2.2.2 t.1 (by omega) hre
        exact Inv.fl hH (fun w w1 w2 => hF.1.2.2.2 w (by omega) w2) _ t.1 _ (st (t.1 - 1) + ln (t.1 - 1) + 1) (by omega) (Int.le_refl _) ((h2.line (H := H) ⟨hH.1, by omega⟩).le (Int.le_refl _) (by omega)) (by have := hwr.1; omega) (fun _ => ⟨by omega, fun q => by omega, fun _ => hH.2⟩)
      · rw [if_neg hre]
        exact h2.le hs.2 hs.2
/-- what fs must be -/
def FsOk (ch : Int → Int) (len nf : Int) (st ln pt en fs : Int → Int) : Prop :=
  fs 0 = 0 ∧ (∀ w : Int, 0 ≤ w → w < en (nf - 1) → PtOk ch (st w) (ln w) (pt w)) ∧
  ∀ f : Int, 0 ≤ f → f < nf → (if f = nf - 1 then fs (f + 1) - 1 = len else ch (fs (f + 1) - 1) = 9) ∧ fs (f + 1) - 1 ≤ len ∧ (∀ x : Int, fs f ≤ x → x < fs (f + 1) - 1 → ch x ≠ 9) ∧ 0 ≤ fF en f ∧ (0 ≤ en f ∧ en f ≤ en (nf - 1) ∧ en f ≤ len) ∧ Fk st ln ch (fs f) (fs (f + 1) - 1) (fF en f) (en f)
theorem WOk.fs {ch : Int → Int} {len nf : Int} {st ln pt en : Int → Int} (h : WOk ch len nf st ln pt en) : (1 ≤ nf ∧ nf ≤ len + 1) ∧ ∃ fs : Int → Int, FsOk ch len nf st ln pt en fs := h
theorem FsOk.fp {ch : Int → Int} {len nf : Int} {st ln pt en fs : Int → Int} (h : FsOk ch len nf st ln pt en fs) {f : Int} (f1 : 0 ≤ f) (f2 : f < nf) : Fp ch st ln pt (fs f) (fs (f + 1) - 1) (fF en f) (en f) := by
  have h1 := h.2.2 f f1 f2
  exact ⟨h1.2.2.2.2.2, fun w w1 w2 => h.2.1 w (by have := h1.2.2.2.1; omega) (by have := h1.2.2.2.2.1; omega)⟩
/-- the state before field n -/
def S0 (c : Int) : LSt := (0, c, 0, (fun _ => (0, 0, 0, 0, 0)), fun _ _ => 0)
theorem sFs_inv {W D H : Int} {g : Int → Int} {ch : Int → Int} {len : Int} {T : TW} {fs : Int → Int} {c0 : Int} (hH : 0 ≤ H ∧ H < W) (hD : 2 ≤ D ∧ D ≤ 20) (hg : SV g) (hc0 : 0 ≤ c0 ∧ c0 < W) (hO : FsOk ch len T.2.2.1 T.2.2.2.1 T.2.2.2.2.1 T.2.2.2.2.2.1 T.2.2.2.2.2.2 fs) : ∀ n : Nat, (n : Int) ≤ T.2.2.1 → (n = 0 ∧ sFs W D H g T n (S0 c0) = S0 c0) ∨ (0 < n ∧ Inv W (sFs W D H g T n (S0 c0)) (fs n - 1) (fs n - 1))
  | 0, _ => Or.inl ⟨rfl, rfl⟩
  | n + 1, hn => by
    have hf := hO.fp (f := n) (by omega) (by omega)
    right
    refine ⟨by omega, ?_⟩
    show Inv W (sFd W D H g T n (sFs W D H g T n (S0 c0))) (fs ((n : Int) + 1) - 1) (fs ((n : Int) + 1) - 1)
    unfold sFd
    rcases sFs_inv hH hD hg hc0 hO n (by omega) with ⟨h1, h2⟩ | ⟨h1, h2⟩
    · rw [if_pos (by omega), h2]
      have hi : Inv W (S0 c0) 0 0 := ⟨⟨Int.le_refl 0, Int.le_refl 0⟩, ⟨hc0.1, by show c0 ≤ W; omega⟩, ⟨Int.le_refl 0, Int.le_refl 0⟩, fun i i1 i2 => by have i2 : i < 0 := i2; omega, fun i j i1 ij j2 => by have j2 : j < 0 := j2; omega⟩
      have hz : fs n = 0 := by rw [h1]; exact hO.1
      have hab := hf.1.1
      have hbd := hf.1.bd
      refine Inv.fl hH hf.1.2.2.2 _ _ _ 0 (by omega) (Int.le_refl _) (hi.beg _ _ _ _) (by omega) (fun q => ⟨?_, fun q => by omega, fun _ => hc0.2⟩)
      have := (hf.1.2.2.1.1 q).1
      omega
    · rw [if_neg (by omega)]
      exact h2.tab hH hD hg hf (by omega)
theorem layS_inv {W D : Int} {y v : YV} (hW : 20 ≤ W) (hD : 2 ≤ D ∧ D ≤ 20) (hy : WfY y) (hv : WfP v) : Inv W (layS W D y v) 80 80 := by
  obtain ⟨h1, fs, h2⟩ := (wdT_ok hv).fs
  have hH := hy.2.1
  have hF := hy.1
  have h3 := sFs_inv (W := W) (D := D) (H := y.2.1) (g := y.2.2) (c0 := y.1) ⟨hH.1, by omega⟩ hD hy.2.2.1 ⟨hF.1, by omega⟩ h2 (wdT v).2.2.1.toNat (by omega)
  have h4 := (h2.2.2 ((wdT v).2.2.1 - 1) (by omega) (by omega)).2.1
  have hl := hv.2.1
  rcases h3 with h3 | h3
  · omega
  · have e : (((wdT v).2.2.1.toNat : Nat) : Int) = (wdT v).2.2.1 - 1 + 1 := by omega
    rw [e] at h3
    exact h3.2.le (by omega) (by omega)
