/-! what the fields of filled lines are -/
/-- column and filled of the field that is under way; the column c -/
def FC (W cur : Int) (S : LSt) : Prop := (0 ≤ S.2.1 ∧ S.2.1 ≤ W) ∧ -80 ≤ S.2.2.2.2 cur 2 ∧ S.2.2.2.2 cur 1 + S.2.2.2.2 cur 2 ≤ W
/-- what may change while words flow: lines are begun, the field's filled columns are told -/
def FK (cur : Int) (S S1 : LSt) : Prop := S.1 ≤ S1.1 ∧ ∀ f w : Int, ¬ (f = cur ∧ w = 2) → S1.2.2.2.2 f w = S.2.2.2.2 f w
theorem FK.rfl {cur : Int} (S : LSt) : FK cur S S := ⟨Int.le_refl _, fun _ _ _ => Eq.refl _⟩
theorem FK.trans {cur : Int} {S S1 S2 : LSt} (h : FK cur S S1) (h1 : FK cur S1 S2) : FK cur S S2 := ⟨Int.le_trans h.1 h1.1, fun f w q => (h1.2 f w q).trans (h.2 f w q)⟩
theorem FK.line {cur H : Int} (S : LSt) : FK cur S (sLine H S) := ⟨by show S.1 ≤ S.1 + 1; omega, fun _ _ _ => Eq.refl _⟩
theorem FK.gap {W H l cur : Int} (S : LSt) : FK cur S (sGap W H l S) := by
  unfold sGap
  split
  · exact ⟨Int.le_refl _, fun _ _ _ => Eq.refl _⟩
  · exact FK.line S
theorem fc_pc {W cur e r : Int} {S : LSt} (hW : W ≤ 80) (h : FC W cur S) (hc : S.2.1 < W) (hr : 1 ≤ r) (h1 : 0 ≤ S.2.2.2.2 cur 1 ∧ S.2.2.2.2 cur 1 ≤ W) : FC W cur (sPc W cur e S r) ∧ FK cur S (sPc W cur e S r) := by
  have hp := pcL_in (W := W) (c := S.2.1) (r := r) ⟨h.1.1, hc⟩ hr
  have h0 := h.1
  have h2 := h.2
  show FC W cur (sFill cur (sSeg S (pcL W S.2.1 r) 0 (e - r))) ∧ FK cur S (sFill cur (sSeg S (pcL W S.2.1 r) 0 (e - r)))
  unfold sFill
  by_cases hq : (sSeg S (pcL W S.2.1 r) 0 (e - r)).2.2.2.2 cur 0 = (sSeg S (pcL W S.2.1 r) 0 (e - r)).1
  · rw [if_pos hq]
    have e2 : fiF S.2.2.2.2 cur (S.2.1 + pcL W S.2.1 r - S.2.2.2.2 cur 1) cur 2 = S.2.1 + pcL W S.2.1 r - S.2.2.2.2 cur 1 := if_pos ⟨rfl, rfl⟩
    have e1 : fiF S.2.2.2.2 cur (S.2.1 + pcL W S.2.1 r - S.2.2.2.2 cur 1) cur 1 = S.2.2.2.2 cur 1 := if_neg (by omega)
    refine ⟨⟨?_, ?_, ?_⟩, Int.le_refl _, fun f w q => if_neg q⟩
    · show 0 ≤ S.2.1 + pcL W S.2.1 r ∧ S.2.1 + pcL W S.2.1 r ≤ W
      omega
    · show -80 ≤ fiF S.2.2.2.2 cur (S.2.1 + pcL W S.2.1 r - S.2.2.2.2 cur 1) cur 2
      rw [e2]
      omega
    · show fiF S.2.2.2.2 cur (S.2.1 + pcL W S.2.1 r - S.2.2.2.2 cur 1) cur 1 + fiF S.2.2.2.2 cur (S.2.1 + pcL W S.2.1 r - S.2.2.2.2 cur 1) cur 2 ≤ W
      rw [e2, e1]
      omega
  · rw [if_neg hq]
    refine ⟨⟨?_, h2⟩, Int.le_refl _, fun f w q => Eq.refl _⟩
    show 0 ≤ S.2.1 + pcL W S.2.1 r ∧ S.2.1 + pcL W S.2.1 r ≤ W
    omega
theorem fc_pl {W H cur e : Int} (hW : W ≤ 80) (hH : 0 ≤ H ∧ H < W) : ∀ (n : Nat) (S : LSt) (r : Int), FC W cur S → S.2.1 < W → 1 ≤ r → r ≤ n → (0 ≤ S.2.2.2.2 cur 1 ∧ S.2.2.2.2 cur 1 ≤ W) → FC W cur (sPl W H cur e n S r) ∧ FK cur S (sPl W H cur e n S r)
  | 0, S, r, h, hc, h1, h2, h3 => by omega
  | n + 1, S, r, h, hc, h1, h2, h3 => by
    have hb := pcL_bd (W := W) (c := S.2.1) h1
    have hp := fc_pc (e := e) hW h hc h1 h3
    have e1 := hp.2.2 cur 1 (by omega)
    rw [sPl_s n S r (by omega)]
    by_cases hg : 0 < r - pcL W S.2.1 r
    · rw [if_pos hg]
      have hl : FC W cur (sLine H (sPc W cur e S r)) := ⟨by show 0 ≤ H ∧ H ≤ W; omega, hp.1.2⟩
      have ih := fc_pl (cur := cur) (e := e) hW hH n (sLine H (sPc W cur e S r)) (r - pcL W S.2.1 r) hl hH.2 (by omega) (by omega) (by show 0 ≤ (sPc W cur e S r).2.2.2.2 cur 1 ∧ (sPc W cur e S r).2.2.2.2 cur 1 ≤ W; rw [e1]; exact h3)
      exact ⟨ih.1, (hp.2.trans (FK.line _)).trans ih.2⟩
    · rw [if_neg hg]
      exact hp
theorem fc_gap {W H l cur : Int} {S : LSt} (hH : 0 ≤ H ∧ H < W) (hl : 1 ≤ l) (h : FC W cur S) : FC W cur (sGap W H l S) ∧ (sGap W H l S).2.1 < W := by
  have h0 := h.1
  unfold sGap
  by_cases hg : S.2.1 + 1 + l ≤ W
  · rw [if_pos hg]
    exact ⟨⟨by show 0 ≤ S.2.1 + 1 ∧ S.2.1 + 1 ≤ W; omega, h.2⟩, by show S.2.1 + 1 < W; omega⟩
  · rw [if_neg hg]
    exact ⟨⟨by show 0 ≤ H ∧ H ≤ W; omega, h.2⟩, hH.2⟩
theorem fc_fl {W H cur : Int} {st ln : Int → Int} {a : Int} (hW : W ≤ 80) (hH : 0 ≤ H ∧ H < W) : ∀ (n : Nat) (w : Int) (S : LSt), a ≤ w → (∀ x : Int, w ≤ x → x < w + n → 1 ≤ ln x) → FC W cur S → (w = a → 0 < n → S.2.1 < W) → (0 ≤ S.2.2.2.2 cur 1 ∧ S.2.2.2.2 cur 1 ≤ W) → FC W cur (sFl W H cur st ln a n w S) ∧ FK cur S (sFl W H cur st ln a n w S)
  | 0, w, S, _, _, h, _, _ => ⟨h, FK.rfl S⟩
  | n + 1, w, S, hw, hl, h, hc, h3 => by
    have hlw := hl w (Int.le_refl _) (by omega)
    have hg : FC W cur (if a < w then sGap W H (ln w) S else S) ∧ (if a < w then sGap W H (ln w) S else S).2.1 < W ∧ FK cur S (if a < w then sGap W H (ln w) S else S) := by
      by_cases haw : a < w
      · rw [if_pos haw]
        have := fc_gap hH hlw h
        exact ⟨this.1, this.2, FK.gap S⟩
      · rw [if_neg haw]
        exact ⟨h, hc (by omega) (by omega), FK.rfl S⟩
    have e1 := hg.2.2.2 cur 1 (by omega)
    have hp := fc_pl (e := st w + ln w) hW hH (ln w).toNat _ (ln w) hg.1 hg.2.1 hlw (by omega) (by rw [e1]; exact h3)
    have e2 := hp.2.2 cur 1 (by omega)
    have ih := fc_fl (st := st) (ln := ln) (a := a) hW hH n (w + 1) _ (by omega) (fun x x1 x2 => hl x (by omega) (by omega)) hp.1 (fun q => by omega) (by rw [e2, e1]; exact h3)
    exact ⟨ih.1, (hg.2.2.trans hp.2).trans ih.2⟩
/-- a field that is done -/
def FD (W : Int) (F : Int → Int → Int) (r f : Int) : Prop := (0 ≤ F f 0 ∧ F f 0 ≤ r) ∧ (0 ≤ F f 1 ∧ F f 1 ≤ W) ∧ (-80 ≤ F f 2 ∧ F f 1 + F f 2 ≤ W) ∧ (F f 5 = 0 → F f 4 = 0 → F f 1 = F f 3) ∧ (0 ≤ F f 5 ↔ 0 ≤ F f 3) ∧ (-9 ≤ F f 3 ∧ F f 3 ≤ 100) ∧ (-9 ≤ F f 4 ∧ F f 4 ≤ 3) ∧ (-9 ≤ F f 5 ∧ F f 5 ≤ 2)
theorem bgF_at (F : Int → Int → Int) (cur row c pos kd mn : Int) : bgF F cur row c pos kd mn cur 0 = row ∧ bgF F cur row c pos kd mn cur 1 = c ∧ bgF F cur row c pos kd mn cur 2 = 0 ∧ bgF F cur row c pos kd mn cur 3 = pos ∧ bgF F cur row c pos kd mn cur 4 = kd ∧ bgF F cur row c pos kd mn cur 5 = mn := by
  simp [bgF]
theorem bgF_n (F : Int → Int → Int) {cur row c pos kd mn f w : Int} (h : f ≠ cur) : bgF F cur row c pos kd mn f w = F f w := if_neg h
/-- out of a begun field and the flow behind it: the field as it is done -/
theorem fd_of {W cur row c pos kd mn : Int} {F : Int → Int → Int} {S1 : LSt} {S0 : LSt} (hF : S0.2.2.2.2 = bgF F cur row c pos kd mn) (h0 : 0 ≤ row ∧ row ≤ S0.1) (hc : 0 ≤ c ∧ c ≤ W) (hm : (mn = 0 → kd = 0 → c = pos) ∧ (0 ≤ mn ↔ 0 ≤ pos) ∧ (-9 ≤ pos ∧ pos ≤ 100) ∧ (-9 ≤ kd ∧ kd ≤ 3) ∧ (-9 ≤ mn ∧ mn ≤ 2)) (h1 : FC W cur S1) (hk : FK cur S0 S1) : FD W S1.2.2.2.2 S1.1 cur ∧ S1.2.2.2.2 cur 0 = row ∧ ∀ f : Int, f ≠ cur → ∀ w : Int, S1.2.2.2.2 f w = F f w := by
  have hb := bgF_at F cur row c pos kd mn
  rw [← hF] at hb
  have e0 := (hk.2 cur 0 (by omega)).trans hb.1
  have e1 := (hk.2 cur 1 (by omega)).trans hb.2.1
  have e3 := (hk.2 cur 3 (by omega)).trans hb.2.2.2.1
  have e4 := (hk.2 cur 4 (by omega)).trans hb.2.2.2.2.1
  have e5 := (hk.2 cur 5 (by omega)).trans hb.2.2.2.2.2
  have hr := hk.1
  have h2 := h1.2
  rw [e1] at h2
  refine ⟨?_, e0, fun f hf w => ?_⟩
  · unfold FD
    rw [e0, e1, e3, e4, e5]
    exact ⟨by omega, hc, h2, hm.1, hm.2.1, hm.2.2.1, hm.2.2.2.1, hm.2.2.2.2⟩
  · rw [hk.2 f w (by omega), hF]
    exact bgF_n F hf
theorem fc_beg {W cur pos kd mn : Int} {S : LSt} (hc : 0 ≤ S.2.1 ∧ S.2.1 ≤ W) : FC W cur (sBeg cur S pos kd mn) ∧ (0 ≤ (sBeg cur S pos kd mn).2.2.2.2 cur 1 ∧ (sBeg cur S pos kd mn).2.2.2.2 cur 1 ≤ W) := by
  have hb := bgF_at S.2.2.2.2 cur S.1 S.2.1 pos kd mn
  refine ⟨⟨hc, ?_, ?_⟩, ?_⟩
  · show -80 ≤ bgF S.2.2.2.2 cur S.1 S.2.1 pos kd mn cur 2
    rw [hb.2.2.1]
    omega
  · show bgF S.2.2.2.2 cur S.1 S.2.1 pos kd mn cur 1 + bgF S.2.2.2.2 cur S.1 S.2.1 pos kd mn cur 2 ≤ W
    rw [hb.2.2.1, hb.2.1]
    omega
  · show 0 ≤ bgF S.2.2.2.2 cur S.1 S.2.1 pos kd mn cur 1 ∧ bgF S.2.2.2.2 cur S.1 S.2.1 pos kd mn cur 1 ≤ W
    rw [hb.2.1]
    exact hc
/-- one more field: it is done, begins where the lines stood or behind, the others stand -/
def FN (W cur : Int) (S S1 : LSt) : Prop := (0 ≤ S1.2.1 ∧ S1.2.1 ≤ W) ∧ S.1 ≤ S1.1 ∧ S.1 ≤ S1.2.2.2.2 cur 0 ∧ FD W S1.2.2.2.2 S1.1 cur ∧ ∀ f : Int, f ≠ cur → ∀ w : Int, S1.2.2.2.2 f w = S.2.2.2.2 f w
theorem rM_ok {W c pos kd : Int} {t : RV} (hk : 0 ≤ kd ∧ kd ≤ 3) (hp : 1 ≤ pos ∧ pos ≤ 80) : (rM W c pos kd t = 0 → kd = 0 → rB W c pos kd t = pos) ∧ (0 ≤ rM W c pos kd t ↔ 0 ≤ pos) ∧ (-9 ≤ pos ∧ pos ≤ 100) ∧ (-9 ≤ kd ∧ kd ≤ 3) ∧ (-9 ≤ rM W c pos kd t ∧ rM W c pos kd t ≤ 2) := by
  have hr : 0 ≤ rM W c pos kd t ∧ rM W c pos kd t ≤ 2 := by
    unfold rM
    split
    · omega
    · split <;> omega
  refine ⟨fun h0 hkd => ?_, ⟨fun _ => by omega, fun _ => hr.1⟩, by omega, by omega, by omega⟩
  have e : rAh kd t = 0 := by
    unfold rAh
    rw [if_neg (by omega), if_neg (by omega), if_neg (by omega)]
  unfold rM at h0
  unfold rB
  rw [e] at h0 ⊢
  by_cases h1 : pos - 0 < c
  · rw [if_pos h1] at h0
    omega
  · rw [if_neg h1] at h0 ⊢
    by_cases h2 : W < pos - 0 + t.2.1
    · rw [if_pos h2] at h0
      omega
    · rw [if_neg h2]
      omega
theorem sSt_F (W cur pos kd ld : Int) (t : RV) (S : LSt) : (sSt W cur pos kd ld t S).2.2.2.2 = bgF S.2.2.2.2 cur S.1 (rB W S.2.1 pos kd t) pos kd (rM W S.2.1 pos kd t) ∧ (sSt W cur pos kd ld t S).1 = S.1 := by
  unfold sSt
  by_cases hl : ld ≠ 0 ∧ S.2.1 < rB W S.2.1 pos kd t
  · rw [if_pos hl]
    have e : S.2.1 + (rB W S.2.1 pos kd t - S.2.1) = rB W S.2.1 pos kd t := by omega
    refine ⟨?_, rfl⟩
    show bgF S.2.2.2.2 cur S.1 (S.2.1 + (rB W S.2.1 pos kd t - S.2.1)) pos kd (rM W S.2.1 pos kd t) = _
    rw [e]
  · rw [if_neg hl]
    exact ⟨rfl, rfl⟩
theorem fn_tab {W D H cur : Int} {g ch st ln pt : Int → Int} {fr to a b : Int} {S : LSt} (hWr : 20 ≤ W ∧ W ≤ 80) (hH : 0 ≤ H ∧ H < W) (hD : 2 ≤ D ∧ D ≤ 20) (hg : SV g) (hF : Fp ch st ln pt fr to a b) (hc : 0 ≤ S.2.1 ∧ S.2.1 ≤ W) (h0 : 0 ≤ S.1) : FN W cur S (sTab W D H g st ln pt cur a b S) := by
  have hab := hF.1.1
  have hl := hF.ln
  have hp := tPos_bd (c := S.2.1) hD hc.1 hg
  have hr := sRun_bd (room := W - (if tKd g S.2.1 = 0 then tPos g D S.2.1 else S.2.1)) hab hl
  have er : sRun ln pt (W - (if tKd g S.2.1 = 0 then tPos g D S.2.1 else S.2.1)) a b = tRun W D g ln pt a b S.2.1 := rfl
  rw [er] at hr
  unfold sTab
  generalize tRun W D g ln pt a b S.2.1 = t at hr ⊢
  have ht := hr.1
  by_cases hb : W < tPos g D S.2.1 ∨ (a < b ∧ t.1 = a)
  · rw [if_pos hb]
    have hbg := fc_beg (W := W) (cur := cur) (pos := -9) (kd := -9) (mn := -9) (S := sLine H S) ⟨hH.1, by show H ≤ W; omega⟩
    have h1 := fc_fl (st := st) (ln := ln) (a := a) hWr.2 hH (b - a).toNat a (sBeg cur (sLine H S) (-9) (-9) (-9)) (Int.le_refl _) (fun x x1 x2 => (hl x x1 (by omega)).1) hbg.1 (fun _ _ => hH.2) hbg.2
    have hd := fd_of (F := S.2.2.2.2) (row := S.1 + 1) (c := H) (pos := -9) (kd := -9) (mn := -9) (S0 := sBeg cur (sLine H S) (-9) (-9) (-9)) rfl ⟨by omega, Int.le_refl _⟩ ⟨hH.1, by omega⟩ (by omega) h1.1 h1.2
    have hk1 : S.1 + 1 ≤ _ := h1.2.1
    exact ⟨h1.1.1, by omega, by rw [hd.2.1]; omega, hd.1, hd.2.2⟩
  · rw [if_neg hb]
    have hB := rB_in (D := D) (c := S.2.1) (kd := tKd g S.2.1) (t := t) (a := a) hc ⟨hp.1.1, by omega⟩ ⟨ht.1, hr.2.1, hr.2.2.1, hr.2.2.2⟩
    have hm := rM_ok (W := W) (c := S.2.1) (t := t) hp.2.1 (pos := tPos g D S.2.1) (by omega)
    have hc1 := sSt_c W cur (tPos g D S.2.1) (tKd g S.2.1) (tLd g S.2.1) t S
    have hF1 := sSt_F W cur (tPos g D S.2.1) (tKd g S.2.1) (tLd g S.2.1) t S
    generalize sSt W cur (tPos g D S.2.1) (tKd g S.2.1) (tLd g S.2.1) t S = S1 at hc1 hF1 ⊢
    generalize rB W S.2.1 (tPos g D S.2.1) (tKd g S.2.1) t = B at hB hm hc1 hF1
    have hb9 := bgF_at S.2.2.2.2 cur S.1 B (tPos g D S.2.1) (tKd g S.2.1) (rM W S.2.1 (tPos g D S.2.1) (tKd g S.2.1) t)
    rw [← hF1.1] at hb9
    have hfc : FC W cur S1 := ⟨by rw [hc1]; omega, by rw [hb9.2.2.1]; omega, by rw [hb9.2.2.1, hb9.2.1]; omega⟩
    have h1 := fc_fl (st := st) (ln := ln) (a := a) hWr.2 hH (t.1 - a).toNat a S1 (Int.le_refl _) (fun x x1 x2 => (hl x x1 (by omega)).1) hfc (fun _ q => by have := hr.2.2.1 (by omega); omega) (by rw [hb9.2.1]; omega)
    have hd : ∀ S2 : LSt, FC W cur S2 → FK cur S1 S2 → FN W cur S S2 := fun S2 q1 q2 => by
      have hd := fd_of hF1.1 ⟨h0, by rw [hF1.2]; omega⟩ ⟨by omega, by omega⟩ hm q1 q2
      have hk1 := q2.1
      rw [hF1.2] at hk1
      exact ⟨q1.1, hk1, by rw [hd.2.1]; omega, hd.1, hd.2.2⟩
    by_cases hre : t.1 < b
    · rw [if_pos hre]
      have hcl : FC W cur (sLine H (sFl W H cur st ln a (t.1 - a).toNat a S1)) := ⟨by show 0 ≤ H ∧ H ≤ W; omega, h1.1.2⟩
      have e1 := (h1.2.2 cur 1 (by omega)).trans hb9.2.1
      have h2 := fc_fl (st := st) (ln := ln) (a := t.1) hWr.2 hH (b - t.1).toNat t.1 _ (Int.le_refl _) (fun x x1 x2 => (hl x (by omega) (by omega)).1) hcl (fun _ _ => hH.2) (by show 0 ≤ (sFl W H cur st ln a (t.1 - a).toNat a S1).2.2.2.2 cur 1 ∧ (sFl W H cur st ln a (t.1 - a).toNat a S1).2.2.2.2 cur 1 ≤ W; rw [e1]; omega)
      exact hd _ h2.1 ((h1.2.trans (FK.line _)).trans h2.2)
    · rw [if_neg hre]
      exact hd _ h1.1 h1.2
/-- all fields up to n -/
def FA (W : Int) (S : LSt) (n : Nat) : Prop := (0 ≤ S.2.1 ∧ S.2.1 ≤ W) ∧ 0 ≤ S.1 ∧ (∀ f : Int, 0 ≤ f → f < n → FD W S.2.2.2.2 S.1 f) ∧ ∀ f : Int, 0 ≤ f → f + 1 < n → S.2.2.2.2 f 0 ≤ S.2.2.2.2 (f + 1) 0
theorem FA.next {W : Int} {S S1 : LSt} {n : Nat} (h : FA W S n) (hn : FN W n S S1) : FA W S1 (n + 1) := by
  obtain ⟨q1, q2, q3, q4, q5⟩ := hn
  have h2 := h.2.1
  refine ⟨q1, by omega, fun f f1 f2 => ?_, fun f f1 f2 => ?_⟩
  · by_cases hf : f = n
    · rw [hf]; exact q4
    · have h3 := h.2.2.1 f f1 (by omega)
      unfold FD at h3 ⊢
      rw [q5 f hf, q5 f hf, q5 f hf, q5 f hf, q5 f hf, q5 f hf]
      exact ⟨by omega, h3.2⟩
  · rw [q5 f (by omega)]
    by_cases hf : f + 1 = n
    · rw [hf]
      have h3 := (h.2.2.1 f f1 (by omega)).1
      omega
    · rw [q5 (f + 1) hf]
      exact h.2.2.2 f f1 (by omega)
theorem fa_fs {W D H : Int} {g : Int → Int} {ch : Int → Int} {len : Int} {T : TW} {fs : Int → Int} {c0 : Int} (hWr : 20 ≤ W ∧ W ≤ 80) (hH : 0 ≤ H ∧ H < W) (hD : 2 ≤ D ∧ D ≤ 20) (hg : SV g) (hc0 : 0 ≤ c0 ∧ c0 < W) (hO : FsOk ch len T.2.2.1 T.2.2.2.1 T.2.2.2.2.1 T.2.2.2.2.2.1 T.2.2.2.2.2.2 fs) : ∀ n : Nat, (n : Int) ≤ T.2.2.1 → FA W (sFs W D H g T n (S0 c0)) n
  | 0, _ => ⟨⟨hc0.1, by show c0 ≤ W; omega⟩, Int.le_refl _, fun f f1 f2 => by omega, fun f f1 f2 => by omega⟩
  | n + 1, hn => by
    have ih := fa_fs hWr hH hD hg hc0 hO n (by omega)
    have hf := hO.fp (f := n) (by omega) (by omega)
    have hab := hf.1.1
    have hln := hf.ln
    refine ih.next ?_
    show FN W n (sFs W D H g T n (S0 c0)) (sFd W D H g T n (sFs W D H g T n (S0 c0)))
    unfold sFd
    by_cases hn0 : (n : Int) = 0
    · rw [if_pos hn0]
      have hn1 : n = 0 := by omega
      have e0 : sFs W D H g T n (S0 c0) = S0 c0 := by rw [hn1]; rfl
      rw [e0]
      have hbg := fc_beg (W := W) (cur := n) (pos := -9) (kd := -9) (mn := -9) (S := S0 c0) ⟨hc0.1, by show c0 ≤ W; omega⟩
      have h1 := fc_fl (st := T.2.2.2.1) (ln := T.2.2.2.2.1) (a := fF T.2.2.2.2.2.2 n) hWr.2 hH (T.2.2.2.2.2.2 n - fF T.2.2.2.2.2.2 n).toNat (fF T.2.2.2.2.2.2 n) (sBeg n (S0 c0) (-9) (-9) (-9)) (Int.le_refl _) (fun x x1 x2 => (hln x x1 (by omega)).1) hbg.1 (fun _ _ => hc0.2) hbg.2
      have hd := fd_of (F := (S0 c0).2.2.2.2) (row := 0) (c := c0) (pos := -9) (kd := -9) (mn := -9) (S0 := sBeg n (S0 c0) (-9) (-9) (-9)) rfl ⟨Int.le_refl _, Int.le_refl _⟩ ⟨hc0.1, by omega⟩ (by omega) h1.1 h1.2
      exact ⟨h1.1.1, h1.2.1, by rw [hd.2.1]; exact Int.le_refl _, hd.1, hd.2.2⟩
    · rw [if_neg hn0]
      exact fn_tab hWr hH hD hg hf ih.1 ih.2.1
theorem fa_lay {W D : Int} {y v : YV} (hW : 20 ≤ W ∧ W ≤ 80) (hD : 2 ≤ D ∧ D ≤ 20) (hy : WfY y) (hv : WfP v) : FA W (layS W D y v) (wdT v).2.2.1.toNat := by
  obtain ⟨h1, fs, h2⟩ := (wdT_ok hv).fs
  have hH := hy.2.1
  have hF := hy.1
  exact fa_fs (W := W) (D := D) (H := y.2.1) (g := y.2.2) (c0 := y.1) hW ⟨hH.1, by omega⟩ hD hy.2.2.1 ⟨hF.1, by omega⟩ h2 (wdT v).2.2.1.toNat (by omega)
