/-! the lines: the class's -/
theorem TabF.congr {f g : Int → Int} (h : ∀ p : Int, 1 ≤ p → p ≤ 80 → f p = g p) {p : Int} (q : TabF f p) : TabF g p := ⟨q.1, q.2.1, by rw [← h p q.1 q.2.1]; exact q.2.2⟩
theorem BehR.congr {f g : Int → Int} (h : ∀ p : Int, 1 ≤ p → p ≤ 80 → f p = g p) {c z : Int} (q : BehR f c z) : BehR g c z := by
  have hs : ∀ p : Int, 1 ≤ p → p ≤ 80 → g p = f p := fun p a b => (h p a b).symm
  rcases q with q | q
  · exact Or.inl ⟨q.1.congr h, q.2.1, fun p hp => q.2.2 p (hp.congr hs)⟩
  · exact Or.inr ⟨q.1, fun p hp => q.2 p (hp.congr hs)⟩
def LK (I1 I : Mem) : Prop := ∀ (x : Nat) (j : Int), ¬ (x = 34 ∧ (j = 6 ∨ j = 7)) → ¬ (40 ≤ x ∧ x ≤ 45) → ¬ (47 ≤ x ∧ x ≤ 127) → I1 x j = I x j
theorem LK.rfl (I : Mem) : LK I I := fun _ _ _ _ _ => Eq.refl _
theorem LK.trans {I2 I1 I : Mem} (h : LK I2 I1) (h1 : LK I1 I) : LK I2 I := fun x j a b c => (h x j a b c).trans (h1 x j a b c)
def LC (I : Mem) (W D H : Int) (T : TW) : Prop := I 34 3 = W ∧ I 34 4 = D ∧ I 34 5 = H ∧ TA T I
theorem TA.kept {I I1 : Mem} {T : TW} (h : TA T I) (hk : ∀ (x : Nat) (j : Int), 35 ≤ x → x ≤ 39 → I1 x j = I x j) : TA T I1 := by
  refine ⟨(hk _ _ (by decide) (by decide)).trans h.1, (hk _ _ (by decide) (by decide)).trans h.2.1, fun w a b => ?_, fun w a b => (hk _ _ (by decide) (by decide)).trans (h.2.2.2 w a b)⟩
  rw [hk _ _ (by decide) (by decide), hk _ _ (by decide) (by decide), hk _ _ (by decide) (by decide)]
  exact h.2.2.1 w a b
theorem LC.kept {I I1 : Mem} {W D H : Int} {T : TW} (h : LC I W D H T) (hk : LK I1 I) : LC I1 W D H T := ⟨(hk _ _ (by omega) (by omega) (by omega)).trans h.1, (hk _ _ (by omega) (by omega) (by omega)).trans h.2.1, (hk _ _ (by omega) (by omega) (by omega)).trans h.2.2.1, h.2.2.2.kept fun x j a b => hk x j (by omega) (by omega) (by omega)⟩
def LI (I : Mem) (S : LSt) (k : Int) : Prop := I 34 6 = S.1 ∧ I 34 7 = S.2.1 ∧ I 40 0 = S.2.2.1 ∧
  (∀ i : Int, 0 ≤ i → i < S.2.2.1 → I 41 i = (S.2.2.2.1 i).1 ∧ I 42 i = (S.2.2.2.1 i).2.1 ∧ I 43 i = (S.2.2.2.1 i).2.2.1 ∧ I 44 i = (S.2.2.2.1 i).2.2.2.1 ∧ I 45 i = (S.2.2.2.1 i).2.2.2.2) ∧
  ∀ (q : Nat) (w : Int), (q : Int) < k → 0 ≤ w → w < 6 → I (47 + q) w = S.2.2.2.2 q w
theorem LI.kept {I I1 : Mem} {S : LSt} {k : Int} (h : LI I S k) (hk : ∀ (x : Nat) (j : Int), ¬ (x = 34 ∧ ¬ (j = 6 ∨ j = 7)) → ¬ (35 ≤ x ∧ x ≤ 39) → (34 ≤ x ∧ x ≤ 128) → I1 x j = I x j) (hk8 : k ≤ 81) : LI I1 S k := by
  refine ⟨(hk _ _ (by omega) (by omega) (by omega)).trans h.1, (hk _ _ (by omega) (by omega) (by omega)).trans h.2.1, (hk _ _ (by omega) (by omega) (by omega)).trans h.2.2.1, fun i a b => ?_, fun q w a b c => (hk _ _ (by omega) (by omega) (by omega)).trans (h.2.2.2.2 q w a b c)⟩
  rw [hk _ _ (by omega) (by omega) (by omega), hk _ _ (by omega) (by omega) (by omega), hk _ _ (by omega) (by omega) (by omega), hk _ _ (by omega) (by omega) (by omega), hk _ _ (by omega) (by omega) (by omega)]
  exact h.2.2.2.1 i a b
theorem LI.line {I : Mem} {S : LSt} {k H : Int} (h : LI I S k) : LI (u2 (u2 I 34 6 (I 34 6 + 1)) 34 7 H) (sLine H S) k := by
  have hk : ∀ (x : Nat) (j : Int), x ≠ 34 → u2 (u2 I 34 6 (I 34 6 + 1)) 34 7 H x j = I x j := fun x j hx => by rw [u2_n (Or.inl hx), u2_n (Or.inl hx)]
  refine ⟨by rw [u2_n (Or.inr (by decide)), u2_s, h.1]; rfl, u2_s, (hk _ _ (by decide)).trans h.2.2.1, fun i a b => ?_, fun q w a b c => (hk _ _ (by omega)).trans (h.2.2.2.2 q w a b c)⟩
  rw [hk _ _ (by decide), hk _ _ (by decide), hk _ _ (by decide), hk _ _ (by decide), hk _ _ (by decide)]
  exact h.2.2.2.1 i a b
theorem LI.at {I : Mem} {S : LSt} {k c : Int} (h : LI I S k) : LI (u2 I 34 7 c) (sAt S c) k := by
  have hk : ∀ (x : Nat) (j : Int), x ≠ 34 → u2 I 34 7 c x j = I x j := fun x j hx => u2_n (Or.inl hx)
  refine ⟨(u2_n (Or.inr (by decide))).trans h.1, u2_s, (hk _ _ (by decide)).trans h.2.2.1, fun i a b => ?_, fun q w a b c => (hk _ _ (by omega)).trans (h.2.2.2.2 q w a b c)⟩
  rw [hk _ _ (by decide), hk _ _ (by decide), hk _ _ (by decide), hk _ _ (by decide), hk _ _ (by decide)]
  exact h.2.2.2.1 i a b
def adI (I : Mem) (r c l d s : Int) : Mem := u2 (u2 (u2 (u2 (u2 (u2 I 41 (I 40 0) r) 42 (I 40 0) c) 43 (I 40 0) l) 44 (I 40 0) d) 45 (I 40 0) s) 40 0 (I 40 0 + 1)
theorem adI_n {I : Mem} {r c l d s : Int} {x : Nat} {j : Int} (h : ¬ (40 ≤ x ∧ x ≤ 45)) : adI I r c l d s x j = I x j := by
  unfold adI
  rw [u2_n (by omega), u2_n (by omega), u2_n (by omega), u2_n (by omega), u2_n (by omega), u2_n (by omega)]
theorem LI.seg {I : Mem} {S : LSt} {k l d s : Int} (h : LI I S k) : LI (u2 (adI I S.1 S.2.1 l d s) 34 7 (S.2.1 + l)) (sSeg S l d s) k := by
  have e41 : adI I S.1 S.2.1 l d s 41 = upF (I 41) (I 40 0) S.1 := by
    unfold adI
    rw [u2_rown _ _ _ (by decide), u2_rown _ _ _ (by decide), u2_rown _ _ _ (by decide), u2_rown _ _ _ (by decide), u2_rown _ _ _ (by decide), u2_rowU]
  have e42 : adI I S.1 S.2.1 l d s 42 = upF (I 42) (I 40 0) S.2.1 := by
    unfold adI
    rw [u2_rown _ _ _ (by decide), u2_rown _ _ _ (by decide), u2_rown _ _ _ (by decide), u2_rown _ _ _ (by decide), u2_rowU, u2_rown _ _ _ (by decide)]
  have e43 : adI I S.1 S.2.1 l d s 43 = upF (I 43) (I 40 0) l := by
    unfold adI
    rw [u2_rown _ _ _ (by decide), u2_rown _ _ _ (by decide), u2_rown _ _ _ (by decide), u2_rowU, u2_rown _ _ _ (by decide), u2_rown _ _ _ (by decide)]
  have e44 : adI I S.1 S.2.1 l d s 44 = upF (I 44) (I 40 0) d := by
    unfold adI
    rw [u2_rown _ _ _ (by decide), u2_rown _ _ _ (by decide), u2_rowU, u2_rown _ _ _ (by decide), u2_rown _ _ _ (by decide), u2_rown _ _ _ (by decide)]
  have e45 : adI I S.1 S.2.1 l d s 45 = upF (I 45) (I 40 0) s := by
    unfold adI
    rw [u2_rown _ _ _ (by decide), u2_rowU, u2_rown _ _ _ (by decide), u2_rown _ _ _ (by decide), u2_rown _ _ _ (by decide), u2_rown _ _ _ (by decide)]
  have e40 : adI I S.1 S.2.1 l d s 40 0 = S.2.2.1 + 1 := by
    unfold adI
    rw [u2_s, h.2.2.1]
  refine ⟨by rw [u2_n (Or.inr (by decide)), adI_n (by omega)]; exact h.1, u2_s, by rw [u2_n (Or.inl (by decide))]; exact e40, fun i a b => ?_, fun q w a b c => by rw [u2_n (by omega), adI_n (by omega)]; exact h.2.2.2.2 q w a b c⟩
  have b : i < S.2.2.1 + 1 := b
  rw [u2_n (Or.inl (by decide)), u2_n (Or.inl (by decide)), u2_n (Or.inl (by decide)), u2_n (Or.inl (by decide)), u2_n (Or.inl (by decide)), e41, e42, e43, e44, e45, h.2.2.1]
  show (if i = S.2.2.1 then S.1 else I 41 i) = (if i = S.2.2.1 then (S.1, S.2.1, l, d, s) else S.2.2.2.1 i).1 ∧ (if i = S.2.2.1 then S.2.1 else I 42 i) = (if i = S.2.2.1 then (S.1, S.2.1, l, d, s) else S.2.2.2.1 i).2.1 ∧ (if i = S.2.2.1 then l else I 43 i) = (if i = S.2.2.1 then (S.1, S.2.1, l, d, s) else S.2.2.2.1 i).2.2.1 ∧ (if i = S.2.2.1 then d else I 44 i) = (if i = S.2.2.1 then (S.1, S.2.1, l, d, s) else S.2.2.2.1 i).2.2.2.1 ∧ (if i = S.2.2.1 then s else I 45 i) = (if i = S.2.2.1 then (S.1, S.2.1, l, d, s) else S.2.2.2.1 i).2.2.2.2
  by_cases hi : i = S.2.2.1
  · rw [if_pos hi, if_pos hi, if_pos hi, if_pos hi, if_pos hi, if_pos hi]
    exact ⟨rfl, rfl, rfl, rfl, rfl⟩
  · rw [if_neg hi, if_neg hi, if_neg hi, if_neg hi, if_neg hi, if_neg hi]
    exact h.2.2.2.1 i a (by omega)
def fiI (I : Mem) (cur : Nat) : Mem := if I (47 + cur) 0 = I 34 6 then u2 I (47 + cur) 2 (I 34 7 - I (47 + cur) 1) else I
theorem fiI_n {I : Mem} {cur : Nat} {x : Nat} {j : Int} (h : x ≠ 47 + cur) : fiI I cur x j = I x j := by
  unfold fiI
  split
  · exact u2_n (Or.inl h)
  · rfl
theorem LI.fill {I : Mem} {S : LSt} {k : Int} {cur : Nat} (h : LI I S k) (hc : (cur : Int) < k) : LI (fiI I cur) (sFill cur S) k := by
  have h0 := h.2.2.2.2 cur 0 hc (by decide) (by decide)
  have h1 := h.2.2.2.2 cur 1 hc (by decide) (by decide)
  unfold fiI sFill
  by_cases hb : S.2.2.2.2 cur 0 = S.1
  · rw [if_pos (by rw [h0, h.1]; exact hb), if_pos hb, h1, h.2.1]
    refine ⟨(u2_n (Or.inl (by omega))).trans h.1, (u2_n (Or.inl (by omega))).trans h.2.1, (u2_n (Or.inl (by omega))).trans h.2.2.1, fun i a b => ?_, fun q w a b c => ?_⟩
    · rw [u2_n (Or.inl (by omega)), u2_n (Or.inl (by omega)), u2_n (Or.inl (by omega)), u2_n (Or.inl (by omega)), u2_n (Or.inl (by omega))]
      exact h.2.2.2.1 i a b
    · show u2 I (47 + cur) 2 (S.2.1 - S.2.2.2.2 cur 1) (47 + q) w = if (q : Int) = cur ∧ w = 2 then S.2.1 - S.2.2.2.2 cur 1 else S.2.2.2.2 q w
      rw [u2_at]
      by_cases hq : (q : Int) = cur ∧ w = 2
      · rw [if_pos hq, if_pos (by omega)]
      · rw [if_neg hq, if_neg (by omega)]
        exact h.2.2.2.2 q w a b c
  · rw [if_neg (by rw [h0, h.1]; exact hb), if_neg hb]
    exact h
def bgI (I : Mem) (cur : Nat) (p k m : Int) : Mem := u2 (u2 (u2 (u2 (u2 (u2 I (47 + cur) 0 (I 34 6)) (47 + cur) 1 (I 34 7)) (47 + cur) 2 0) (47 + cur) 3 p) (47 + cur) 4 k) (47 + cur) 5 m
theorem bgI_n {I : Mem} {cur : Nat} {p k m : Int} {x : Nat} {j : Int} (h : x ≠ 47 + cur) : bgI I cur p k m x j = I x j := by
  unfold bgI
  rw [u2_n (Or.inl h), u2_n (Or.inl h), u2_n (Or.inl h), u2_n (Or.inl h), u2_n (Or.inl h), u2_n (Or.inl h)]
theorem LI.beg {I : Mem} {S : LSt} {cur : Nat} {p kd m : Int} (h : LI I S cur) : LI (bgI I cur p kd m) (sBeg cur S p kd m) (cur + 1) := by
  refine ⟨(bgI_n (by omega)).trans h.1, (bgI_n (by omega)).trans h.2.1, (bgI_n (by omega)).trans h.2.2.1, fun i a b => ?_, fun q w a b c => ?_⟩
  · rw [bgI_n (by omega), bgI_n (by omega), bgI_n (by omega), bgI_n (by omega), bgI_n (by omega)]
    exact h.2.2.2.1 i a b
  · show bgI I cur p kd m (47 + q) w = if (q : Int) = cur then (if w = 0 then S.1 else if w = 1 then S.2.1 else if w = 2 then 0 else if w = 3 then p else if w = 4 then kd else m) else S.2.2.2.2 q w
    by_cases hq : (q : Int) = cur
    · have hq2 : q = cur := by omega
      rw [if_pos hq, hq2]
      unfold bgI
      rcases (show w = 0 ∨ w = 1 ∨ w = 2 ∨ w = 3 ∨ w = 4 ∨ w = 5 by omega) with rfl | rfl | rfl | rfl | rfl | rfl
      · rw [u2_n (Or.inr (by decide)), u2_n (Or.inr (by decide)), u2_n (Or.inr (by decide)), u2_n (Or.inr (by decide)), u2_n (Or.inr (by decide)), u2_s]; exact h.1
      · rw [u2_n (Or.inr (by decide)), u2_n (Or.inr (by decide)), u2_n (Or.inr (by decide)), u2_n (Or.inr (by decide)), u2_s]; exact h.2.1
      · rw [u2_n (Or.inr (by decide)), u2_n (Or.inr (by decide)), u2_n (Or.inr (by decide)), u2_s]; rfl
      · rw [u2_n (Or.inr (by decide)), u2_n (Or.inr (by decide)), u2_s]; rfl
      · rw [u2_n (Or.inr (by decide)), u2_s]; rfl
      · rw [u2_s]; rfl
    · rw [if_neg hq, bgI_n (by omega)]
      exact h.2.2.2.2 q w (by omega) b c
set_option maxHeartbeats 4000000 in
set_option maxRecDepth 100000 in
theorem c_startLine (I : Mem) (R : RMem) (hRO : RefOk R)  : CC 0 0 0 yX0_startLine cX0_startLine 1 none [.inr (some 34)] (290, ShF, I, R) (PW R (fun I1 => I1 = u2 (u2 I 34 6 (I 34 6 + 1)) 34 7 (I 34 5))) := by
  refine CC_of (own := RX0) (ini := false) (by decide +kernel) rfl (fun h => absurd h (by decide)) (Nat.le_of_ble_eq_true rfl) ?_
  show WW cX0_startLine RX0 1 none false 0 0 0 (PW R (fun I1 => I1 = u2 (u2 I 34 6 (I 34 6 + 1)) 34 7 (I 34 5))) 0 0 0 [some (.inr (some 34))] [] (290, ShF, I, R)
  refine r_aload_n dX0_startLine_0 rfl ?_
  refine r_dup dX0_startLine_1 ?_
  refine q_getI fl_X0_30 dX0_startLine_2 sf_34 ?_
  refine r_iconst dX0_startLine_5 ?_
  refine r_iadd dX0_startLine_6 ?_
  refine q_putI fl_X0_30 dX0_startLine_7 sf_34 ?_
  refine r_aload_n dX0_startLine_10 rfl ?_
  refine r_aload_n dX0_startLine_11 rfl ?_
  refine q_getI fl_X0_52 dX0_startLine_12 sf_34 ?_
  rw [u2_n (Or.inr (by decide))]
  refine q_putI fl_X0_56 dX0_startLine_15 sf_34 ?_
  refine q_vretW dX0_startLine_18 rfl ?_
  rfl
set_option maxHeartbeats 4000000 in
set_option maxRecDepth 100000 in
theorem c_lineCount (I : Mem) (R : RMem) (hRO : RefOk R)  : CC 0 0 0 yX0_lineCount cX0_lineCount 1 (some .int) [.inr (some 34)] (290, ShF, I, R) (PF (I 34 6 + 1) I R) := by
  refine CC_of (own := RX0) (ini := false) (by decide +kernel) rfl (fun h => absurd h (by decide)) (Nat.le_of_ble_eq_true rfl) ?_
  show WW cX0_lineCount RX0 1 (some .int) false 0 0 0 (PF (I 34 6 + 1) I R) 0 0 0 [some (.inr (some 34))] [] (290, ShF, I, R)
  refine r_aload_n dX0_lineCount_0 rfl ?_
  refine q_getI fl_X0_30 dX0_lineCount_1 sf_34 ?_
  refine r_iconst dX0_lineCount_4 ?_
  refine r_iadd dX0_lineCount_5 ?_
  refine q_iretF dX0_lineCount_6 rfl ?_
  rfl
set_option maxHeartbeats 4000000 in
set_option maxRecDepth 100000 in
theorem c_removeAll (I : Mem) (R : RMem) (hRO : RefOk R)  : CC 0 0 0 yX2_removeAll cX2_removeAll 1 none [.inr (some 40)] (290, ShF, I, R) (PW R (fun I1 => I1 = u2 I 40 0 0)) := by
  refine CC_of (own := RX2) (ini := false) (by decide +kernel) rfl (fun h => absurd h (by decide)) (Nat.le_of_ble_eq_true rfl) ?_
  show WW cX2_removeAll RX2 1 none false 0 0 0 (PW R (fun I1 => I1 = u2 I 40 0 0)) 0 0 0 [some (.inr (some 40))] [] (290, ShF, I, R)
  refine r_aload_n dX2_removeAll_0 rfl ?_
  refine r_iconst dX2_removeAll_1 ?_
  refine q_putI fl_X2_27 dX2_removeAll_2 sf_40 ?_
  refine q_vretW dX2_removeAll_5 rfl ?_
  rfl
set_option maxHeartbeats 4000000 in
set_option maxRecDepth 100000 in
theorem c_add (I : Mem) (R : RMem) (hRO : RefOk R) (r c l d s : Int) (hn : 0 ≤ I 40 0 ∧ I 40 0 < 80) : CC 0 0 0 yX2_add cX2_add 6 none [.inr (some 40), .inl (r), .inl (c), .inl (l), .inl (d), .inl (s)] (290, ShF, I, R) (PW R (fun I1 => I1 = adI I r c l d s)) := by
  refine CC_of (own := RX2) (ini := false) (by decide +kernel) rfl (fun h => absurd h (by decide)) (Nat.le_of_ble_eq_true rfl) ?_
  show WW cX2_add RX2 6 none false 0 0 0 (PW R (fun I1 => I1 = adI I r c l d s)) 0 0 0 [some (.inr (some 40)), some (.inl (r)), some (.inl (c)), some (.inl (l)), some (.inl (d)), some (.inl (s))] [] (290, ShF, I, R)
  refine r_aload_n dX2_add_0 rfl ?_
  refine q_getI fl_X2_27 dX2_add_1 sf_40 ?_
  refine r_bipush dX2_add_4 (by decide) ?_
  refine r_icmpge (tgt := 71) dX2_add_6 (by decide) (by omega) (by omega) (fun h6 => ?_) (fun h6 => ?_)
  · refine q_vretW dX2_add_71 rfl ?_
    first | rfl | (exfalso; omega)
  · refine r_aload_n dX2_add_9 rfl ?_
    refine q_getR fl_X2_11 dX2_add_10 sf_40 (ro_40_1 hRO) ?_
    refine r_aload_n dX2_add_13 rfl ?_
    refine q_getI fl_X2_27 dX2_add_14 sf_40 ?_
    refine r_iload_n dX2_add_17 rfl ?_
    refine q_iast dX2_add_18 sf_41 (by omega) ?_
    refine r_aload_n dX2_add_19 rfl ?_
    refine q_getR fl_X2_15 dX2_add_20 sf_40 (ro_40_2 hRO) ?_
    refine r_aload_n dX2_add_23 rfl ?_
    refine q_getI fl_X2_27 dX2_add_24 sf_40 ?_
    rw [u2_n (Or.inl (by decide))]
    refine r_iload_n dX2_add_27 rfl ?_
    refine q_iast dX2_add_28 sf_42 (by omega) ?_
    refine r_aload_n dX2_add_29 rfl ?_
    refine q_getR fl_X2_18 dX2_add_30 sf_40 (ro_40_3 hRO) ?_
    refine r_aload_n dX2_add_33 rfl ?_
    refine q_getI fl_X2_27 dX2_add_34 sf_40 ?_
    rw [u2_n (Or.inl (by decide)), u2_n (Or.inl (by decide))]
    refine r_iload_n dX2_add_37 rfl ?_
    refine q_iast dX2_add_38 sf_43 (by omega) ?_
    refine r_aload_n dX2_add_39 rfl ?_
    refine q_getR fl_X2_21 dX2_add_40 sf_40 (ro_40_4 hRO) ?_
    refine r_aload_n dX2_add_43 rfl ?_
    refine q_getI fl_X2_27 dX2_add_44 sf_40 ?_
    rw [u2_n (Or.inl (by decide)), u2_n (Or.inl (by decide)), u2_n (Or.inl (by decide))]
    refine r_iload dX2_add_47 rfl ?_
    refine q_iast dX2_add_49 sf_44 (by omega) ?_
    refine r_aload_n dX2_add_50 rfl ?_
    refine q_getR fl_X2_24 dX2_add_51 sf_40 (ro_40_5 hRO) ?_
    refine r_aload_n dX2_add_54 rfl ?_
    refine q_getI fl_X2_27 dX2_add_55 sf_40 ?_
    rw [u2_n (Or.inl (by decide)), u2_n (Or.inl (by decide)), u2_n (Or.inl (by decide)), u2_n (Or.inl (by decide))]
    refine r_iload dX2_add_58 rfl ?_
    refine q_iast dX2_add_60 sf_45 (by omega) ?_
    refine r_aload_n dX2_add_61 rfl ?_
    refine r_dup dX2_add_62 ?_
    refine q_getI fl_X2_27 dX2_add_63 sf_40 ?_
    rw [u2_n (Or.inl (by decide)), u2_n (Or.inl (by decide)), u2_n (Or.inl (by decide)), u2_n (Or.inl (by decide)), u2_n (Or.inl (by decide))]
    refine r_iconst dX2_add_66 ?_
    refine r_iadd dX2_add_67 ?_
    refine q_putI fl_X2_27 dX2_add_68 sf_40 ?_
    refine q_vretW dX2_add_71 rfl ?_
    first | rfl | (exfalso; omega)
set_option maxHeartbeats 4000000 in
set_option maxRecDepth 100000 in
theorem c_noteFilled (I : Mem) (R : RMem) (hRO : RefOk R) (cur : Nat) (hcur : I 34 8 = cur) (hc81 : cur < 81) (hb0 : 0 ≤ I (47 + cur) 0 ∧ I (47 + cur) 0 ≤ 100) (hb6 : 0 ≤ I 34 6 ∧ I 34 6 ≤ 100) : CC 0 0 0 yX0_noteFilled cX0_noteFilled 2 none [.inr (some 34)] (290, ShF, I, R) (PW R (fun I1 => I1 = fiI I cur)) := by
  refine CC_of (own := RX0) (ini := false) (by decide +kernel) rfl (fun h => absurd h (by decide)) (Nat.le_of_ble_eq_true rfl) ?_
  show WW cX0_noteFilled RX0 2 none false 0 0 0 (PW R (fun I1 => I1 = fiI I cur)) 0 0 0 [some (.inr (some 34)), none] [] (290, ShF, I, R)
  refine r_aload_n dX0_noteFilled_0 rfl ?_
  refine q_getI fl_X0_62 dX0_noteFilled_1 sf_34 ?_
  rw [hcur]
  refine r_iflt (tgt := 47) dX0_noteFilled_4 (by decide) (by omega) (fun h4 => ?_) (fun h4 => ?_)
  · refine q_vretW dX0_noteFilled_47 rfl ?_
    unfold fiI
    first | (exfalso; omega) | (rw [if_pos (by omega)]) | (rw [if_neg (by omega)])
  · refine r_aload_n dX0_noteFilled_7 rfl ?_
    refine q_getI fl_X0_62 dX0_noteFilled_8 sf_34 ?_
    rw [hcur]
    refine r_bipush dX0_noteFilled_11 (by decide) ?_
    refine r_icmpge (tgt := 47) dX0_noteFilled_13 (by decide) (by omega) (by omega) (fun h13 => ?_) (fun h13 => ?_)
    · refine q_vretW dX0_noteFilled_47 rfl ?_
      unfold fiI
      first | (exfalso; omega) | (rw [if_pos (by omega)]) | (rw [if_neg (by omega)])
    · refine r_aload_n dX0_noteFilled_16 rfl ?_
      refine q_getR fl_X0_27 dX0_noteFilled_17 sf_34 (ro_34_2 hRO) ?_
      refine r_aload_n dX0_noteFilled_20 rfl ?_
      refine q_getI fl_X0_62 dX0_noteFilled_21 sf_34 ?_
      rw [hcur]
      refine q_aaldI dX0_noteFilled_24 sf_46 (by omega) (ro_46 hRO hc81) ?_
      refine r_astore_n dX0_noteFilled_25 (by decide) ?_
      dsimp only [lset]
      refine r_aload_n dX0_noteFilled_26 rfl ?_
      refine r_iconst dX0_noteFilled_27 ?_
      refine q_iald dX0_noteFilled_28 (sf_row hc81) (by omega) ?_
      refine r_aload_n dX0_noteFilled_29 rfl ?_
      refine q_getI fl_X0_30 dX0_noteFilled_30 sf_34 ?_
      refine r_icmpne (tgt := 47) dX0_noteFilled_33 (by decide) (by omega) (by omega) (fun h33 => ?_) (fun h33 => ?_)
      · refine q_vretW dX0_noteFilled_47 rfl ?_
        unfold fiI
        first | (exfalso; omega) | (rw [if_pos (by omega)]) | (rw [if_neg (by omega)])
      · refine r_aload_n dX0_noteFilled_36 rfl ?_
        refine r_iconst dX0_noteFilled_37 ?_
        refine r_aload_n dX0_noteFilled_38 rfl ?_
        refine q_getI fl_X0_56 dX0_noteFilled_39 sf_34 ?_
        refine r_aload_n dX0_noteFilled_42 rfl ?_
        refine r_iconst dX0_noteFilled_43 ?_
        refine q_iald dX0_noteFilled_44 (sf_row hc81) (by omega) ?_
        refine r_isub dX0_noteFilled_45 ?_
        refine q_iast dX0_noteFilled_46 (sf_row hc81) (by omega) ?_
        refine q_vretW dX0_noteFilled_47 rfl ?_
        unfold fiI
        first | (exfalso; omega) | (rw [if_pos (by omega)]) | (rw [if_neg (by omega)])
set_option maxHeartbeats 4000000 in
set_option maxRecDepth 100000 in
theorem c_startField (I : Mem) (R : RMem) (hRO : RefOk R) (cur : Nat) (hcur : I 34 8 = cur) (hc81 : cur < 81) (p k m : Int) : CC 0 0 0 yX0_startField cX0_startField 5 none [.inr (some 34), .inl (p), .inl (k), .inl (m)] (290, ShF, I, R) (PW R (fun I1 => I1 = bgI I cur p k m)) := by
  refine CC_of (own := RX0) (ini := false) (by decide +kernel) rfl (fun h => absurd h (by decide)) (Nat.le_of_ble_eq_true rfl) ?_
  show WW cX0_startField RX0 5 none false 0 0 0 (PW R (fun I1 => I1 = bgI I cur p k m)) 0 0 0 [some (.inr (some 34)), some (.inl (p)), some (.inl (k)), some (.inl (m)), none] [] (290, ShF, I, R)
  refine r_aload_n dX0_startField_0 rfl ?_
  refine q_getI fl_X0_62 dX0_startField_1 sf_34 ?_
  rw [hcur]
  refine r_iflt (tgt := 63) dX0_startField_4 (by decide) (by omega) (fun h4 => ?_) (fun h4 => ?_)
  · refine q_vretW dX0_startField_63 rfl ?_
    first | rfl | (exfalso; omega)
  · refine r_aload_n dX0_startField_7 rfl ?_
    refine q_getI fl_X0_62 dX0_startField_8 sf_34 ?_
    rw [hcur]
    refine r_bipush dX0_startField_11 (by decide) ?_
    refine r_icmpge (tgt := 63) dX0_startField_13 (by decide) (by omega) (by omega) (fun h13 => ?_) (fun h13 => ?_)
    · refine q_vretW dX0_startField_63 rfl ?_
      first | rfl | (exfalso; omega)
    · refine r_aload_n dX0_startField_16 rfl ?_
      refine q_getR fl_X0_27 dX0_startField_17 sf_34 (ro_34_2 hRO) ?_
      refine r_aload_n dX0_startField_20 rfl ?_
      refine q_getI fl_X0_62 dX0_startField_21 sf_34 ?_
      rw [hcur]
      refine q_aaldI dX0_startField_24 sf_46 (by omega) (ro_46 hRO hc81) ?_
      refine r_astore dX0_startField_25 (by decide) ?_
      dsimp only [lset]
      refine r_aload dX0_startField_27 rfl ?_
      refine r_iconst dX0_startField_29 ?_
      refine r_aload_n dX0_startField_30 rfl ?_
      refine q_getI fl_X0_30 dX0_startField_31 sf_34 ?_
      refine q_iast dX0_startField_34 (sf_row hc81) (by omega) ?_
      refine r_aload dX0_startField_35 rfl ?_
      refine r_iconst dX0_startField_37 ?_
      refine r_aload_n dX0_startField_38 rfl ?_
      refine q_getI fl_X0_56 dX0_startField_39 sf_34 ?_
      rw [u2_n (Or.inl (by omega))]
      refine q_iast dX0_startField_42 (sf_row hc81) (by omega) ?_
      refine r_aload dX0_startField_43 rfl ?_
      refine r_iconst dX0_startField_45 ?_
      refine r_iconst dX0_startField_46 ?_
      refine q_iast dX0_startField_47 (sf_row hc81) (by omega) ?_
      refine r_aload dX0_startField_48 rfl ?_
      refine r_iconst dX0_startField_50 ?_
      refine r_iload_n dX0_startField_51 rfl ?_
      refine q_iast dX0_startField_52 (sf_row hc81) (by omega) ?_
      refine r_aload dX0_startField_53 rfl ?_
      refine r_iconst dX0_startField_55 ?_
      refine r_iload_n dX0_startField_56 rfl ?_
      refine q_iast dX0_startField_57 (sf_row hc81) (by omega) ?_
      refine r_aload dX0_startField_58 rfl ?_
      refine r_iconst dX0_startField_60 ?_
      refine r_iload_n dX0_startField_61 rfl ?_
      refine q_iast dX0_startField_62 (sf_row hc81) (by omega) ?_
      refine q_vretW dX0_startField_63 rfl ?_
      first | rfl | (exfalso; omega)
set_option maxHeartbeats 4000000 in
set_option maxRecDepth 100000 in
theorem c_runAhead (I : Mem) (R : RMem) (hRO : RefOk R) (kd : Int) (hkd : 0 ≤ kd ∧ kd ≤ 4) (t : RV) (h10 : I 34 10 = t.2.1) (h11 : I 34 11 = t.2.2) (hb : 0 ≤ t.2.1 ∧ t.2.1 ≤ 100) : CC 0 0 0 yX0_runAhead cX0_runAhead 2 (some .int) [.inr (some 34), .inl (kd)] (290, ShF, I, R) (PF (rAh kd t) I R) := by
  refine CC_of (own := RX0) (ini := false) (by decide +kernel) rfl (fun h => absurd h (by decide)) (Nat.le_of_ble_eq_true rfl) ?_
  show WW cX0_runAhead RX0 2 (some .int) false 0 0 0 (PF (rAh kd t) I R) 0 0 0 [some (.inr (some 34)), some (.inl (kd))] [] (290, ShF, I, R)
  refine r_iload_n dX0_runAhead_0 rfl ?_
  rcases (show kd = 1 ∨ kd = 2 ∨ kd = 3 ∨ (kd < 1 ∨ 3 < kd) by omega) with rfl | rfl | rfl | hww
  · refine r_tsIn (off := 27) (tgt := 28) dX0_runAhead_1 (by decide) (by decide) rfl (by decide) ?_
    refine r_aload_n dX0_runAhead_28 rfl ?_
    refine q_getI fl_X0_109 dX0_runAhead_29 sf_34 ?_
    rw [h10]
    refine q_iretF dX0_runAhead_32 rfl ?_
    rfl
  · refine r_tsIn (off := 32) (tgt := 33) dX0_runAhead_1 (by decide) (by decide) rfl (by decide) ?_
    refine r_aload_n dX0_runAhead_33 rfl ?_
    refine q_getI fl_X0_109 dX0_runAhead_34 sf_34 ?_
    rw [h10]
    refine r_iconst dX0_runAhead_37 ?_
    refine r_idiv dX0_runAhead_38 (by omega) (by omega) ?_
    refine q_iretF dX0_runAhead_39 rfl ?_
    rfl
  · refine r_tsIn (off := 39) (tgt := 40) dX0_runAhead_1 (by decide) (by decide) rfl (by decide) ?_
    refine r_aload_n dX0_runAhead_40 rfl ?_
    refine q_getI fl_X0_112 dX0_runAhead_41 sf_34 ?_
    rw [h11]
    refine q_iretF dX0_runAhead_44 rfl ?_
    rfl
  · refine r_tsOut (tgt := 45) dX0_runAhead_1 (by omega) hww (by decide) ?_
    refine r_iconst dX0_runAhead_45 ?_
    refine q_iretF dX0_runAhead_46 rfl ?_
    unfold rAh
    rw [if_neg (by omega), if_neg (by omega), if_neg (by omega)]
theorem sFill_F0 (cur : Int) (S : LSt) : (sFill cur S).2.2.2.2 cur 0 = S.2.2.2.2 cur 0 := by
  unfold sFill
  split
  · exact if_neg (fun q => absurd q.2 (by decide))
  · rfl
theorem sPl_F0 {W H cur e : Int} : ∀ (n : Nat) (S : LSt) (r : Int), (sPl W H cur e n S r).2.2.2.2 cur 0 = S.2.2.2.2 cur 0
  | 0, S, r => rfl
  | n + 1, S, r => by
    have h1 : (sPc W cur e S r).2.2.2.2 cur 0 = S.2.2.2.2 cur 0 := sFill_F0 cur _
    unfold sPl
    split
    · split
      · rw [sPl_F0 n]
        exact h1
      · exact h1
    · rfl
theorem sFl_F0 {W H cur : Int} {st ln : Int → Int} {a : Int} : ∀ (n : Nat) (w : Int) (S : LSt), (sFl W H cur st ln a n w S).2.2.2.2 cur 0 = S.2.2.2.2 cur 0
  | 0, w, S => rfl
  | n + 1, w, S => by
    show (sFl W H cur st ln a n (w + 1) (sPl W H cur (st w + ln w) (ln w).toNat (if a < w then sGap W H (ln w) S else S) (ln w))).2.2.2.2 cur 0 = _
    rw [sFl_F0 n, sPl_F0]
    split
    · unfold sGap
      split <;> rfl
    · rfl
theorem sPl_z {W H cur e : Int} : ∀ (n : Nat) (S : LSt) (r : Int), r ≤ 0 → sPl W H cur e n S r = S
  | 0, S, r, _ => rfl
  | n + 1, S, r, h => if_neg (by omega)
theorem sPl_s {W H cur e : Int} (n : Nat) (S : LSt) (r : Int) (h : 0 < r) : sPl W H cur e (n + 1) S r = if 0 < r - pcL W S.2.1 r then sPl W H cur e n (sLine H (sPc W cur e S r)) (r - pcL W S.2.1 r) else sPc W cur e S r := if_pos h
set_option maxHeartbeats 4000000 in
set_option maxRecDepth 100000 in
theorem c_place (I : Mem) (R : RMem) (hRO : RefOk R) {W D H : Int} {T : TW} (hC : LC I W D H T) (hWr : 20 ≤ W ∧ W ≤ 80) (hH : 0 ≤ H ∧ H < W) (cur : Nat) (hcur : I 34 8 = cur) (hc81 : cur < 81) {S : LSt} {k : Int} (hk : (cur : Int) < k ∧ k ≤ 81) (hL : LI I S k) (w : Int) (hw : 0 ≤ w ∧ w < T.2.1 ∧ T.2.1 ≤ 80) {kr kp : Int} (hI : Inv W S kr kp) (hcW : S.2.1 < W) (hl : 1 ≤ T.2.2.2.2.1 w ∧ kr + T.2.2.2.2.1 w ≤ 81 ∧ kp + T.2.2.2.2.1 w ≤ 80) (hst : 0 ≤ T.2.2.2.1 w ∧ T.2.2.2.1 w ≤ 80) (hF0 : 0 ≤ S.2.2.2.2 cur 0 ∧ S.2.2.2.2 cur 0 ≤ 80) : CC 1 0 0 yX0_place cX0_place 5 none [.inr (some 34), .inl (w)] (290, ShF, I, R) (PW R (fun I1 => LI I1 (sPl W H cur (T.2.2.2.1 w + T.2.2.2.2.1 w) (T.2.2.2.2.1 w).toNat S (T.2.2.2.2.1 w)) k ∧ LK I1 I)) := by
  have hTA := hC.2.2.2
  have hww := hTA.2.2.1 w hw.1 hw.2.1
  have hI1 := hI.1
  have hI3 := hI.2.2.1
  have hloop : ∀ (n : Nat) (m : Nat) (r : Int) (S1 : LSt) (kr1 kp1 : Int) (u4 : Option MV) (I1 : Mem), m < n → r ≤ m → LI I1 S1 k → LK I1 I → (0 < r → S1.2.1 < W ∧ 0 ≤ r) → Inv W S1 kr1 kp1 → (0 < r → kr1 + r ≤ 81 ∧ kp1 + r ≤ 80) → (sPl W H cur (T.2.2.2.1 w + T.2.2.2.2.1 w) (T.2.2.2.2.1 w).toNat S (T.2.2.2.2.1 w)) = sPl W H cur (T.2.2.2.1 w + T.2.2.2.2.1 w) m S1 r → (0 ≤ r ∧ r ≤ 80) → S1.2.2.2.2 cur 0 = S.2.2.2.2 cur 0 → WW cX0_place RX0 5 none false 1 0 0 (PW R (fun I1 => LI I1 (sPl W H cur (T.2.2.2.1 w + T.2.2.2.2.1 w) (T.2.2.2.2.1 w).toNat S (T.2.2.2.2.1 w)) k ∧ LK I1 I)) 0 0 27 [some (.inr (some 34)), some (.inl (w)), some (.inl (T.2.2.2.1 w + T.2.2.2.2.1 w)), some (.inl (r)), u4] [] (290, ShF, I1, R) := by
    intro n
    induction n with
    | zero => intros; exfalso; omega
    | succ n ih =>
      intro m r S1 kr1 kp1 u4 I1 g1 g2 g3 g4 g5 g6 g7 g8 g9 g10
      refine r_iload_n dX0_place_27 rfl ?_
      refine r_ifle (tgt := 102) dX0_place_28 (by decide) (by omega) (fun h28 => ?_) (fun h28 => ?_)
      · refine q_vretW dX0_place_102 rfl ?_
        have hr0 : r ≤ 0 := by omega
        rw [sPl_z _ _ _ hr0] at g8
        rw [g8]
        exact ⟨g3, g4⟩
      · have hr0 : 0 < r := by omega
        have hC1 := hC.kept g4
        have hcu1 : I1 34 8 = cur := (g4 _ _ (by omega) (by omega) (by omega)).trans hcur
        have hW1 : I1 34 3 = W := hC1.1
        have hc1 : I1 34 7 = S1.2.1 := g3.2.1
        have hcw1 := (g5 hr0).1
        have hc0 := g6.2.1
        have hpl := pcL_in (W := W) (c := S1.2.1) (r := r) ⟨hc0.1, hcw1⟩ (by omega)
        have hkk := g7 hr0
        have hkr := g6.1
        have hkp := g6.2.2.1
        obtain ⟨m, rfl⟩ : ∃ q : Nat, m = q + 1 := ⟨m - 1, by omega⟩
        rw [sPl_s _ _ _ hr0] at g8
        refine r_iload_n dX0_place_31 rfl ?_
        refine r_iconst dX0_place_32 ?_
        refine r_aload_n dX0_place_33 rfl ?_
        refine q_getI fl_X0_41 dX0_place_34 sf_34 ?_
        rw [hW1]
        refine r_aload_n dX0_place_37 rfl ?_
        refine q_getI fl_X0_56 dX0_place_38 sf_34 ?_
        rw [hc1]
        refine r_isub dX0_place_41 ?_
        refine q_mmax mx_X0_135 dX0_place_42 (by decide) (Nat.le_of_ble_eq_true rfl) (by omega) (by omega) (by decide) ?_
        have hm1 : 1 ≤ (if 1 < W - S1.2.1 then W - S1.2.1 else 1) ∧ (if 1 < W - S1.2.1 then W - S1.2.1 else 1) ≤ 80 := by split <;> omega
        refine q_mmin mx_X0_140 dX0_place_45 (by decide) (Nat.le_of_ble_eq_true rfl) (by omega) (by omega) (by decide) ?_
        rw [show (if (if 1 < W - S1.2.1 then W - S1.2.1 else 1) < r then (if 1 < W - S1.2.1 then W - S1.2.1 else 1) else r) = pcL W S1.2.1 r from rfl]
        refine r_istore dX0_place_48 (by decide) ?_
        dsimp only [lset]
        refine r_aload_n dX0_place_50 rfl ?_
        refine q_getR fl_X0_21 dX0_place_51 sf_34 (ro_34_1 hRO) ?_
        refine r_aload_n dX0_place_54 rfl ?_
        refine q_getI fl_X0_30 dX0_place_55 sf_34 ?_
        rw [g3.1]
        refine r_aload_n dX0_place_58 rfl ?_
        refine q_getI fl_X0_56 dX0_place_59 sf_34 ?_
        rw [hc1]
        refine r_iload dX0_place_62 rfl ?_
        refine r_iconst dX0_place_64 ?_
        refine r_iload_n dX0_place_65 rfl ?_
        refine r_iload_n dX0_place_66 rfl ?_
        refine r_isub dX0_place_67 ?_
        refine q_callVW lk_X0_124 dX0_place_68 (c_add I1 R hRO S1.1 S1.2.1 (pcL W S1.2.1 r) 0 (T.2.2.2.1 w + T.2.2.2.2.1 w - r) (by have := g3.2.2.1; omega)) (by decide) sf_40 rfl rfl (Nat.le_of_ble_eq_true rfl) (by decide) (fun I2 hI2 => ?_)
        subst hI2
        refine r_aload_n dX0_place_71 rfl ?_
        refine r_dup dX0_place_72 ?_
        refine q_getI fl_X0_56 dX0_place_73 sf_34 ?_
        rw [adI_n (by omega), hc1]
        refine r_iload dX0_place_76 rfl ?_
        refine r_iadd dX0_place_78 ?_
        refine q_putI fl_X0_56 dX0_place_79 sf_34 ?_
        have hs := g3.seg (l := pcL W S1.2.1 r) (d := 0) (s := T.2.2.2.1 w + T.2.2.2.2.1 w - r)
        have hks : LK (u2 (adI I1 S1.1 S1.2.1 (pcL W S1.2.1 r) 0 (T.2.2.2.1 w + T.2.2.2.2.1 w - r)) 34 7 (S1.2.1 + pcL W S1.2.1 r)) I := fun x j a b c => by
          rw [u2_n (by omega), adI_n b]
          exact g4 x j a b c
        generalize u2 (adI I1 S1.1 S1.2.1 (pcL W S1.2.1 r) 0 (T.2.2.2.1 w + T.2.2.2.2.1 w - r)) 34 7 (S1.2.1 + pcL W S1.2.1 r) = I3 at hs hks ⊢
        have hiv := (g6.seg (l := pcL W S1.2.1 r) (d := 0) (s := T.2.2.2.1 w + T.2.2.2.2.1 w - r) ⟨by omega, hpl.2.2.1⟩).fill cur
        refine r_aload_n dX0_place_82 rfl ?_
        refine q_callVW lk_X0_143 dX0_place_83 (c_noteFilled I3 R hRO cur ((hks _ _ (by omega) (by omega) (by omega)).trans hcur) hc81 (by rw [hs.2.2.2.2 cur 0 hk.1 (by decide) (by decide)]; show 0 ≤ S1.2.2.2.2 cur 0 ∧ S1.2.2.2.2 cur 0 ≤ 100; omega) (by rw [hs.1]; show 0 ≤ S1.1 ∧ S1.1 ≤ 100; omega)) (by decide) sf_34 rfl rfl (Nat.le_of_ble_eq_true rfl) (by decide) (fun I4 hI4 => ?_)
        subst hI4
        have hs4 := hs.fill hk.1
        have hk4 : LK (fiI I3 cur) I := fun x j a b c => by
          rw [fiI_n (by omega)]
          exact hks x j a b c
        generalize fiI I3 cur = I4 at hs4 hk4 ⊢
        refine r_iload_n dX0_place_86 rfl ?_
        refine r_iload dX0_place_87 rfl ?_
        refine r_isub dX0_place_89 ?_
        refine r_istore_n dX0_place_90 (by decide) ?_
        dsimp only [lset]
        refine r_iload_n dX0_place_91 rfl ?_
        refine r_ifle (tgt := 99) dX0_place_92 (by decide) (by omega) (fun h92 => ?_) (fun h92 => ?_)
        · rw [if_neg (by omega)] at g8
          refine r_goto (tgt := 27) dX0_place_99 (by decide) ?_
          first
            | (refine ih m (r - pcL W S1.2.1 r) _ (kr1 + 1) (kp1 + 1) _ _ (by omega) (by omega) (hs4.line (H := H)) (fun x j a b c => ?_) (fun _ => ⟨hH.2, by omega⟩) (hiv.line ⟨hH.1, by omega⟩) (fun _ => by omega) g8 (by omega) ((sFill_F0 _ _).trans g10)
               rw [u2_n (by omega), u2_n (by omega)]
               exact hk4 x j a b c)
            | (refine ih m (r - pcL W S1.2.1 r) _ kr1 (kp1 + 1) _ _ (by omega) (by omega) hs4 hk4 (fun q => by omega) hiv (fun q => by omega) ?_ (by omega) ((sFill_F0 _ _).trans g10)
               rw [g8]
               exact (sPl_z _ _ _ (by omega)).symm)
        · rw [if_pos (by omega)] at g8
          refine r_aload_n dX0_place_95 rfl ?_
          refine q_callVW lk_X0_100 dX0_place_96 (c_startLine I4 R hRO) (by decide) sf_34 rfl rfl (Nat.le_of_ble_eq_true rfl) (by decide) (fun I5 hI5 => ?_)
          subst hI5
          have hH4 : I4 34 5 = H := (hk4 _ _ (by omega) (by omega) (by omega)).trans hC.2.2.1
          rw [hH4]
          refine r_goto (tgt := 27) dX0_place_99 (by decide) ?_
          first
            | (refine ih m (r - pcL W S1.2.1 r) _ (kr1 + 1) (kp1 + 1) _ _ (by omega) (by omega) (hs4.line (H := H)) (fun x j a b c => ?_) (fun _ => ⟨hH.2, by omega⟩) (hiv.line ⟨hH.1, by omega⟩) (fun _ => by omega) g8 (by omega) ((sFill_F0 _ _).trans g10)
               rw [u2_n (by omega), u2_n (by omega)]
               exact hk4 x j a b c)
            | (refine ih m (r - pcL W S1.2.1 r) _ kr1 (kp1 + 1) _ _ (by omega) (by omega) hs4 hk4 (fun q => by omega) hiv (fun q => by omega) ?_ (by omega) ((sFill_F0 _ _).trans g10)
               rw [g8]
               exact (sPl_z _ _ _ (by omega)).symm)
  refine CC_of (own := RX0) (ini := false) (by decide +kernel) rfl (fun h => absurd h (by decide)) (Nat.le_of_ble_eq_true rfl) ?_
  show WW cX0_place RX0 5 none false 1 0 0 (PW R (fun I1 => LI I1 (sPl W H cur (T.2.2.2.1 w + T.2.2.2.2.1 w) (T.2.2.2.2.1 w).toNat S (T.2.2.2.2.1 w)) k ∧ LK I1 I)) 0 0 0 [some (.inr (some 34)), some (.inl (w)), none, none, none] [] (290, ShF, I, R)
  refine r_aload_n dX0_place_0 rfl ?_
  refine q_getR fl_X0_12 dX0_place_1 sf_34 (ro_34_0 hRO) ?_
  refine r_iload_n dX0_place_4 rfl ?_
  refine q_callVF lk_X0_132 dX0_place_5 (c_startOf I R hRO w (by omega)) (by decide) sf_35 rfl rfl (Nat.le_of_ble_eq_true rfl) (by decide) ?_
  rw [if_pos (show 0 ≤ w ∧ w < 80 by omega), hww.1]
  refine r_aload_n dX0_place_8 rfl ?_
  refine q_getR fl_X0_12 dX0_place_9 sf_34 (ro_34_0 hRO) ?_
  refine r_iload_n dX0_place_12 rfl ?_
  refine q_callVF lk_X0_115 dX0_place_13 (c_lengthOf I R hRO w (by omega)) (by decide) sf_35 rfl rfl (Nat.le_of_ble_eq_true rfl) (by decide) ?_
  rw [if_pos (show 0 ≤ w ∧ w < 80 by omega), hww.2.1]
  refine r_iadd dX0_place_16 ?_
  refine r_istore_n dX0_place_17 (by decide) ?_
  dsimp only [lset]
  refine r_aload_n dX0_place_18 rfl ?_
  refine q_getR fl_X0_12 dX0_place_19 sf_34 (ro_34_0 hRO) ?_
  refine r_iload_n dX0_place_22 rfl ?_
  refine q_callVF lk_X0_115 dX0_place_23 (c_lengthOf I R hRO w (by omega)) (by decide) sf_35 rfl rfl (Nat.le_of_ble_eq_true rfl) (by decide) ?_
  rw [if_pos (show 0 ≤ w ∧ w < 80 by omega), hww.2.1]
  refine r_istore_n dX0_place_26 (by decide) ?_
  dsimp only [lset]
  exact hloop ((T.2.2.2.2.1 w).toNat + 1) (T.2.2.2.2.1 w).toNat (T.2.2.2.2.1 w) S kr kp _ I (by omega) (by omega) hL (LK.rfl I) (fun _ => ⟨hcW, by omega⟩) hI (fun _ => by omega) rfl (by omega) rfl
