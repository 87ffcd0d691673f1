/-! the characters that stand in the lines are those of the text without spaces and tabs; fields are one more than tabs -/
def wrN (ch : Int → Int) : Nat → Int
  | 0 => 0
  | n + 1 => wrN ch n + (if ch n = 32 ∨ ch n = 9 then 0 else 1)
def tbN (ch : Int → Int) : Nat → Int
  | 0 => 0
  | n + 1 => tbN ch n + (if ch n = 9 then 1 else 0)
def sumI (ln : Int → Int) : Nat → Int → Int
  | 0, _ => 0
  | n + 1, w => ln w + sumI ln n (w + 1)
theorem sumI_add (ln : Int → Int) : ∀ (m n : Nat) (w : Int), sumI ln (m + n) w = sumI ln m w + sumI ln n (w + m)
  | 0, n, w => by
    rw [Nat.zero_add, show w + ((0 : Nat) : Int) = w by omega]
    show sumI ln n w = 0 + sumI ln n w
    omega
  | m + 1, n, w => by
    rw [show m + 1 + n = (m + n) + 1 by omega]
    show ln w + sumI ln (m + n) (w + 1) = ln w + sumI ln m (w + 1) + sumI ln n (w + ((m + 1 : Nat) : Int))
    rw [sumI_add ln m n (w + 1), show w + 1 + (m : Int) = w + ((m + 1 : Nat) : Int) by omega]
    omega
theorem sumI_congr {ln lm : Int → Int} : ∀ (n : Nat) (w : Int), (∀ x : Int, w ≤ x → x < w + n → ln x = lm x) → sumI ln n w = sumI lm n w
  | 0, _, _ => rfl
  | n + 1, w, h => by
    show ln w + sumI ln n (w + 1) = lm w + sumI lm n (w + 1)
    rw [h w (Int.le_refl _) (by omega), sumI_congr n (w + 1) (fun x h1 h2 => h x (by omega) (by omega))]
theorem sumI_last (ln : Int → Int) (n : Nat) (w : Int) : sumI ln (n + 1) w = sumI ln n w + ln (w + n) := by
  rw [sumI_add ln n 1 w]
  show sumI ln n w + (ln (w + n) + 0) = _
  omega
/-! counting while the words are found -/
theorem wr_tk (ch : Int → Int) : ∀ n : Nat, sumI (tkT ch n).2.2.2.2.1 (tkT ch n).2.1.toNat 0 = wrN ch n ∧ (tkT ch n).2.2.1 = tbN ch n
  | 0 => ⟨rfl, rfl⟩
  | n + 1 => by
    have ih := wr_tk ch n
    have h := tkT_ok ch n
    have hw := h.iw
    have hz : ∀ f : Int, 0 ≤ f → f ≤ (tkT ch n).2.2.1 → 0 ≤ fF (tkT ch n).2.2.2.2.2.2 f := fF_z h
    obtain ⟨fs, q1, q2, q3, q4, q5, q6, q7, q8⟩ := h
    have hz := hz (tkT ch n).2.2.1 q2.1 (Int.le_refl _)
    show sumI (tkS ch n (tkT ch n)).2.2.2.2.1 (tkS ch n (tkT ch n)).2.1.toNat 0 = wrN ch n + (if ch n = 32 ∨ ch n = 9 then 0 else 1) ∧ (tkS ch n (tkT ch n)).2.2.1 = tbN ch n + (if ch n = 9 then 1 else 0)
    unfold tkS
    by_cases h1 : ch n = 32
    · rw [if_pos h1, if_pos (Or.inl h1), if_neg (by omega)]
      exact ⟨ih.1.trans (Int.add_zero _).symm, ih.2.trans (Int.add_zero _).symm⟩
    · rw [if_neg h1]
      by_cases h2 : ch n = 9
      · rw [if_pos h2, if_pos (Or.inr h2), if_pos h2]
        exact ⟨ih.1.trans (Int.add_zero _).symm, congrArg (fun z => z + 1) ih.2⟩
      · rw [if_neg h2, if_neg (show ¬ (ch n = 32 ∨ ch n = 9) by omega), if_neg h2]
        by_cases h3 : (tkT ch n).1 = 0
        · rw [if_pos h3]
          refine ⟨?_, ih.2.trans (Int.add_zero _).symm⟩
          show sumI (upF (upF (tkT ch n).2.2.2.2.1 (tkT ch n).2.1 0) (tkT ch n).2.1 1) ((tkT ch n).2.1 + 1).toNat 0 = _
          rw [show ((tkT ch n).2.1 + 1).toNat = (tkT ch n).2.1.toNat + 1 by omega, sumI_last, ← ih.1]
          rw [sumI_congr (lm := (tkT ch n).2.2.2.2.1) _ 0 (fun x x1 x2 => by
            unfold upF
            rw [if_neg (by omega), if_neg (by omega)])]
          rw [show (0 : Int) + ((tkT ch n).2.1.toNat : Int) = (tkT ch n).2.1 by omega]
          have e : upF (upF (tkT ch n).2.2.2.2.1 (tkT ch n).2.1 0) (tkT ch n).2.1 1 (tkT ch n).2.1 = 1 := if_pos rfl
          rw [e]
        · rw [if_neg h3]
          have hn1 : 1 ≤ (tkT ch n).2.1 := by
            rcases q6 with q | q
            · omega
            · omega
          refine ⟨?_, ih.2.trans (Int.add_zero _).symm⟩
          show sumI (upF (tkT ch n).2.2.2.2.1 ((tkT ch n).2.1 - 1) ((tkT ch n).2.2.2.2.1 ((tkT ch n).2.1 - 1) + 1)) (tkT ch n).2.1.toNat 0 = _
          rw [← ih.1]
          obtain ⟨k, hk⟩ : ∃ k : Nat, (tkT ch n).2.1 = k + 1 := ⟨((tkT ch n).2.1 - 1).toNat, by omega⟩
          rw [hk, show ((k : Int) + 1).toNat = k + 1 by omega, sumI_last, sumI_last]
          rw [sumI_congr (lm := (tkT ch n).2.2.2.2.1) k 0 (fun x x1 x2 => by
            unfold upF
            rw [if_neg (by omega)])]
          rw [show (0 : Int) + (k : Int) = k by omega, show (k : Int) + 1 - 1 = k by omega]
          have e : upF (tkT ch n).2.2.2.2.1 (k : Int) ((tkT ch n).2.2.2.2.1 (k : Int) + 1) (k : Int) = (tkT ch n).2.2.2.2.1 (k : Int) + 1 := if_pos rfl
          rw [e]
          omega
/-! counting while the lines are filled -/
theorem flG_congr {P Q : Int → PcV} {b : Int} : ∀ n : Nat, (∀ i : Int, 0 ≤ i → i < n → P i = Q i) → flG P b n = flG Q b n
  | 0, _ => rfl
  | n + 1, h => by
    have ih := flG_congr (P := P) (Q := Q) (b := b) n (fun i h1 h2 => h i h1 (by omega))
    show flG P b n + (if ((P n).2.2.2.1 = 0 ∧ b = 0) ∨ ((P n).2.2.2.1 ≠ 0 ∧ b = 1) then (P n).2.2.1 else 0) = flG Q b n + (if ((Q n).2.2.2.1 = 0 ∧ b = 0) ∨ ((Q n).2.2.2.1 ≠ 0 ∧ b = 1) then (Q n).2.2.1 else 0)
    rw [ih, h n (by omega) (by omega)]
def Wr (S : LSt) : Int := flG S.2.2.2.1 0 S.2.2.1.toNat
theorem Wr_seg {S : LSt} (h : 0 ≤ S.2.2.1) (l d s : Int) : Wr (sSeg S l d s) = Wr S + (if d = 0 then l else 0) ∧ 0 ≤ (sSeg S l d s).2.2.1 := by
  refine ⟨?_, by show 0 ≤ S.2.2.1 + 1; omega⟩
  show flG (sSeg S l d s).2.2.2.1 0 (S.2.2.1 + 1).toNat = _
  rw [show (S.2.2.1 + 1).toNat = S.2.2.1.toNat + 1 by omega]
  have eN : (sSeg S l d s).2.2.2.1 (S.2.2.1.toNat : Int) = (S.1, S.2.1, l, d, s) := if_pos (by omega)
  show flG (sSeg S l d s).2.2.2.1 0 S.2.2.1.toNat + (if (((sSeg S l d s).2.2.2.1 (S.2.2.1.toNat : Int)).2.2.2.1 = 0 ∧ (0 : Int) = 0) ∨ (((sSeg S l d s).2.2.2.1 (S.2.2.1.toNat : Int)).2.2.2.1 ≠ 0 ∧ (0 : Int) = 1) then ((sSeg S l d s).2.2.2.1 (S.2.2.1.toNat : Int)).2.2.1 else 0) = _
  have eP : flG (sSeg S l d s).2.2.2.1 0 S.2.2.1.toNat = flG S.2.2.2.1 0 S.2.2.1.toNat := flG_congr S.2.2.1.toNat (fun i i1 i2 => if_neg (by omega))
  rw [eN, eP]
  show Wr S + (if (d = 0 ∧ (0 : Int) = 0) ∨ (d ≠ 0 ∧ (0 : Int) = 1) then l else 0) = _
  by_cases hd : d = 0
  · rw [if_pos (Or.inl ⟨hd, rfl⟩), if_pos hd]
  · rw [if_neg (by omega), if_neg hd]
theorem Wr_fill (cur : Int) (S : LSt) : Wr (sFill cur S) = Wr S ∧ (sFill cur S).2.2.1 = S.2.2.1 := by
  have e := sFill_same cur S
  unfold Wr
  rw [e.2.2.1, e.2.2.2]
  exact ⟨rfl, rfl⟩
theorem pcL_bd {W c r : Int} (hr : 1 ≤ r) : 1 ≤ pcL W c r ∧ pcL W c r ≤ r := by
  unfold pcL
  split <;> (split <;> omega)
theorem Wr_pl {W H cur e : Int} : ∀ (n : Nat) (S : LSt) (r : Int), 0 ≤ S.2.2.1 → 1 ≤ r → r ≤ n → Wr (sPl W H cur e n S r) = Wr S + r ∧ 0 ≤ (sPl W H cur e n S r).2.2.1
  | 0, S, r, h, h1, h2 => by omega
  | n + 1, S, r, h, h1, h2 => by
    have hb := pcL_bd (W := W) (c := S.2.1) h1
    have hs := Wr_seg h (pcL W S.2.1 r) 0 (e - r)
    have hf := Wr_fill cur (sSeg S (pcL W S.2.1 r) 0 (e - r))
    rw [if_pos rfl] at hs
    have h3 : Wr (sPc W cur e S r) = Wr S + pcL W S.2.1 r := hf.1.trans hs.1
    have h4 : 0 ≤ (sPc W cur e S r).2.2.1 := by
      show 0 ≤ (sFill cur (sSeg S (pcL W S.2.1 r) 0 (e - r))).2.2.1
      rw [hf.2]
      exact hs.2
    rw [sPl_s n S r (by omega)]
    by_cases hg : 0 < r - pcL W S.2.1 r
    · rw [if_pos hg]
      have ih := Wr_pl (W := W) (H := H) (cur := cur) (e := e) n (sLine H (sPc W cur e S r)) (r - pcL W S.2.1 r) h4 (by omega) (by omega)
      refine ⟨?_, ih.2⟩
      rw [ih.1]
      show Wr (sPc W cur e S r) + (r - pcL W S.2.1 r) = _
      rw [h3]
      omega
    · rw [if_neg hg]
      exact ⟨by rw [h3]; omega, h4⟩
theorem Wr_fl {W H cur : Int} {st ln : Int → Int} {a : Int} : ∀ (n : Nat) (w : Int) (S : LSt), 0 ≤ S.2.2.1 → (∀ x : Int, w ≤ x → x < w + n → 1 ≤ ln x) → Wr (sFl W H cur st ln a n w S) = Wr S + sumI ln n w ∧ 0 ≤ (sFl W H cur st ln a n w S).2.2.1
  | 0, w, S, h, _ => ⟨by show Wr S = Wr S + 0; omega, h⟩
  | n + 1, w, S, h, hl => by
    have hg : Wr (if a < w then sGap W H (ln w) S else S) = Wr S ∧ 0 ≤ (if a < w then sGap W H (ln w) S else S).2.2.1 := by
      unfold sGap
      split
      · split <;> exact ⟨rfl, h⟩
      · exact ⟨rfl, h⟩
    have hw := hl w (Int.le_refl _) (by omega)
    have hp := Wr_pl (W := W) (H := H) (cur := cur) (e := st w + ln w) (ln w).toNat (if a < w then sGap W H (ln w) S else S) (ln w) hg.2 hw (by omega)
    have ih := Wr_fl (W := W) (H := H) (cur := cur) (st := st) (ln := ln) (a := a) n (w + 1) _ hp.2 (fun x x1 x2 => hl x (by omega) (by omega))
    refine ⟨?_, ih.2⟩
    show Wr (sFl W H cur st ln a n (w + 1) (sPl W H cur (st w + ln w) (ln w).toNat (if a < w then sGap W H (ln w) S else S) (ln w))) = Wr S + (ln w + sumI ln n (w + 1))
    rw [ih.1, hp.1, hg.1]
    omega
theorem Wr_st {W cur pos kd ld : Int} {t : RV} {S : LSt} (h : 0 ≤ S.2.2.1) : Wr (sSt W cur pos kd ld t S) = Wr S ∧ 0 ≤ (sSt W cur pos kd ld t S).2.2.1 := by
  unfold sSt
  by_cases hl : ld ≠ 0 ∧ S.2.1 < rB W S.2.1 pos kd t
  · rw [if_pos hl]
    have hs := Wr_seg h (rB W S.2.1 pos kd t - S.2.1) ld 0
    rw [if_neg hl.1] at hs
    refine ⟨?_, hs.2⟩
    show Wr (sSeg S (rB W S.2.1 pos kd t - S.2.1) ld 0) = Wr S
    rw [hs.1]
    omega
  · rw [if_neg hl]
    exact ⟨rfl, h⟩
theorem Wr_tab {W D H cur : Int} {g st ln pt : Int → Int} {a b : Int} {S : LSt} (h : 0 ≤ S.2.2.1) (hab : a ≤ b) (hl : ∀ w : Int, a ≤ w → w < b → 1 ≤ ln w ∧ -1 ≤ pt w ∧ pt w ≤ ln w) : Wr (sTab W D H g st ln pt cur a b S) = Wr S + sumI ln (b - a).toNat a ∧ 0 ≤ (sTab W D H g st ln pt cur a b S).2.2.1 := by
  have hr := sRun_bd (room := W - (if tKd g S.2.1 = 0 then tPos g D S.2.1 else S.2.1)) hab hl
  have er : sRun ln pt (W - (if tKd g S.2.1 = 0 then tPos g D S.2.1 else S.2.1)) a b = tRun W D g ln pt a b S.2.1 := rfl
  rw [er] at hr
  unfold sTab
  generalize tRun W D g ln pt a b S.2.1 = t at hr ⊢
  have ht := hr.1
  by_cases hb : W < tPos g D S.2.1 ∨ (a < b ∧ t.1 = a)
  · rw [if_pos hb]
    have h1 := Wr_fl (W := W) (H := H) (cur := cur) (st := st) (ln := ln) (a := a) (b - a).toNat a (sBeg cur (sLine H S) (-9) (-9) (-9)) h (fun x x1 x2 => (hl x x1 (by omega)).1)
    exact h1
  · rw [if_neg hb]
    have hs := Wr_st (W := W) (cur := cur) (pos := tPos g D S.2.1) (kd := tKd g S.2.1) (ld := tLd g S.2.1) (t := t) h
    have h1 := Wr_fl (W := W) (H := H) (cur := cur) (st := st) (ln := ln) (a := a) (t.1 - a).toNat a _ hs.2 (fun x x1 x2 => (hl x x1 (by omega)).1)
    by_cases hre : t.1 < b
    · rw [if_pos hre]
      have h2 := Wr_fl (W := W) (H := H) (cur := cur) (st := st) (ln := ln) (a := t.1) (b - t.1).toNat t.1 (sLine H (sFl W H cur st ln a (t.1 - a).toNat a (sSt W cur (tPos g D S.2.1) (tKd g S.2.1) (tLd g S.2.1) t S))) h1.2 (fun x x1 x2 => (hl x (by omega) (by omega)).1)
      refine ⟨?_, h2.2⟩
      rw [h2.1]
      show Wr (sFl W H cur st ln a (t.1 - a).toNat a (sSt W cur (tPos g D S.2.1) (tKd g S.2.1) (tLd g S.2.1) t S)) + _ = _
      rw [h1.1, hs.1, show (b - a).toNat = (t.1 - a).toNat + (b - t.1).toNat by omega, sumI_add, show a + ((t.1 - a).toNat : Int) = t.1 by omega]
      omega
    · rw [if_neg hre]
      have hte : t.1 = b := by omega
      refine ⟨?_, h1.2⟩
      rw [h1.1, hs.1, hte]
theorem Wr_fs {W D H : Int} {g : Int → Int} {ch : Int → Int} {len : Int} {T : TW} {fs : Int → Int} {c0 : Int} (hO : FsOk ch len T.2.2.1 T.2.2.2.1 T.2.2.2.2.1 T.2.2.2.2.2.1 T.2.2.2.2.2.2 fs) : ∀ n : Nat, (n : Int) ≤ T.2.2.1 → Wr (sFs W D H g T n (S0 c0)) = sumI T.2.2.2.2.1 (fF T.2.2.2.2.2.2 n).toNat 0 ∧ 0 ≤ (sFs W D H g T n (S0 c0)).2.2.1
  | 0, _ => ⟨rfl, Int.le_refl _⟩
  | n + 1, hn => by
    have ih := Wr_fs (W := W) (D := D) (H := H) (g := g) (c0 := c0) hO n (by omega)
    have hf := hO.fp (f := n) (by omega) (by omega)
    have h0 := (hO.2.2 n (by omega) (by omega)).2.2.2.1
    have hab := hf.1.1
    have hln := hf.ln
    have e9 : fF T.2.2.2.2.2.2 ((n + 1 : Nat) : Int) = T.2.2.2.2.2.2 n := by
      unfold fF
      rw [if_neg (by omega), show ((n + 1 : Nat) : Int) - 1 = n by omega]
    have es : sumI T.2.2.2.2.1 (T.2.2.2.2.2.2 n).toNat 0 = sumI T.2.2.2.2.1 (fF T.2.2.2.2.2.2 n).toNat 0 + sumI T.2.2.2.2.1 (T.2.2.2.2.2.2 n - fF T.2.2.2.2.2.2 n).toNat (fF T.2.2.2.2.2.2 n) := by
      rw [show (T.2.2.2.2.2.2 n).toNat = (fF T.2.2.2.2.2.2 n).toNat + (T.2.2.2.2.2.2 n - fF T.2.2.2.2.2.2 n).toNat by omega, sumI_add, show (0 : Int) + ((fF T.2.2.2.2.2.2 n).toNat : Int) = fF T.2.2.2.2.2.2 n by omega]
    rw [e9, es, ← ih.1]
    show Wr (sFd W D H g T n (sFs W D H g T n (S0 c0))) = _ ∧ 0 ≤ (sFd W D H g T n (sFs W D H g T n (S0 c0))).2.2.1
    generalize sFs W D H g T n (S0 c0) = S at ih ⊢
    unfold sFd
    by_cases hn0 : (n : Int) = 0
    · rw [if_pos hn0]
      exact Wr_fl _ _ (sBeg n S (-9) (-9) (-9)) ih.2 (fun x x1 x2 => (hln x x1 (by omega)).1)
    · rw [if_neg hn0]
      exact Wr_tab ih.2 hab hln
theorem wr_lay {W D : Int} {y v : YV} (hv : WfP v) : Wr (layS W D y v) = wrN v.2.2 v.2.1.toNat ∧ (wdT v).2.2.1 = tbN v.2.2 v.2.1.toNat + 1 := by
  obtain ⟨h1, fs, h2⟩ := (wdT_ok hv).fs
  have ht := wr_tk v.2.2 v.2.1.toNat
  have hl := wdT_last v
  refine ⟨?_, ?_⟩
  · rw [← ht.1]
    have h3 := (Wr_fs (W := W) (D := D) (H := y.2.1) (g := y.2.2) (c0 := y.1) h2 (wdT v).2.2.1.toNat (by omega)).1
    have e : fF (wdT v).2.2.2.2.2.2 ((wdT v).2.2.1.toNat : Int) = (tkT v.2.2 v.2.1.toNat).2.1 := by
      rw [show (((wdT v).2.2.1.toNat : Nat) : Int) = (wdT v).2.2.1 by omega]
      unfold fF
      rw [if_neg (by omega), hl]
      rfl
    rw [e] at h3
    exact h3
  · show (tkT v.2.2 v.2.1.toNat).2.2.1 + 1 = _
    rw [ht.2]
