/-! what stands in a column of a line: the class -/
theorem pc_cases (k z : Int) : k = z ∨ k ≠ z := by omega
def covP (p : PcV) (r q : Int) : Prop := p.1 = r ∧ p.2.1 ≤ q ∧ q ≤ p.2.1 + p.2.2.1 - 1
def pcAt (P : Int → PcV) (r q : Int) : Nat → Int
  | 0 => -1
  | n + 1 => if pcAt P r q n ≠ -1 then pcAt P r q n else if (P n).1 = r ∧ (P n).2.1 ≤ q ∧ q ≤ (P n).2.1 + (P n).2.2.1 - 1 then n else -1
theorem pcAt_bd (P : Int → PcV) (r q : Int) : ∀ n : Nat, -1 ≤ pcAt P r q n ∧ pcAt P r q n < n
  | 0 => by show (-1 : Int) ≤ -1 ∧ (-1 : Int) < 0; omega
  | n + 1 => by
    have h := pcAt_bd P r q n
    show -1 ≤ (if pcAt P r q n ≠ -1 then pcAt P r q n else if (P n).1 = r ∧ (P n).2.1 ≤ q ∧ q ≤ (P n).2.1 + (P n).2.2.1 - 1 then (n : Int) else -1) ∧ (if pcAt P r q n ≠ -1 then pcAt P r q n else if (P n).1 = r ∧ (P n).2.1 ≤ q ∧ q ≤ (P n).2.1 + (P n).2.2.1 - 1 then (n : Int) else -1) < ((n + 1 : Nat) : Int)
    split
    · omega
    · split <;> omega
theorem pcAt_keep {P : Int → PcV} {r q : Int} {m : Nat} (h : pcAt P r q m ≠ -1) : ∀ n : Nat, m ≤ n → pcAt P r q n = pcAt P r q m
  | 0, hn => by rw [show m = 0 by omega]
  | n + 1, hn => by
    by_cases hm : m = n + 1
    · rw [hm]
    · have h1 := pcAt_keep h n (by omega)
      show (if pcAt P r q n ≠ -1 then pcAt P r q n else if (P n).1 = r ∧ (P n).2.1 ≤ q ∧ q ≤ (P n).2.1 + (P n).2.2.1 - 1 then (n : Int) else -1) = _
      rw [h1, if_pos h]
def flG (P : Int → PcV) (b : Int) : Nat → Int
  | 0 => 0
  | n + 1 => flG P b n + (if ((P n).2.2.2.1 = 0 ∧ b = 0) ∨ ((P n).2.2.2.1 ≠ 0 ∧ b = 1) then (P n).2.2.1 else 0)
def brR (P : Int → PcV) (m : Nat) (q : Int) : Nat → Int
  | 0 => 0
  | n + 1 => brR P m q n + (if pcAt P n q m = -1 then 1 else 0)
def brG (P : Int → PcV) (m : Nat) (g : Int → Int) (rows : Nat) : Nat → Int
  | 0 => 0
  | n + 1 => brG P m g rows n + (if 17 ≤ g ((n : Int) + 1) then brR P m ((n : Int) + 1) rows else 0)
theorem brR_bd (P : Int → PcV) (m : Nat) (q : Int) : ∀ n : Nat, 0 ≤ brR P m q n ∧ brR P m q n ≤ n
  | 0 => ⟨Int.le_refl _, Int.le_refl _⟩
  | n + 1 => by
    have h := brR_bd P m q n
    show 0 ≤ brR P m q n + (if pcAt P n q m = -1 then 1 else 0) ∧ brR P m q n + (if pcAt P n q m = -1 then 1 else 0) ≤ ((n + 1 : Nat) : Int)
    split <;> omega
def brA (a : AS) (p W : Int) (S : LSt) : Int := brG S.2.2.2.1 S.2.2.1.toNat (yOf a p).2.2 (S.1 + 1).toNat (W - 1).toNat
def hdA (a : AS) (p W w : Int) (S : LSt) : Int :=
  if w = 0 then flG S.2.2.2.1 0 S.2.2.1.toNat else if w = 1 then flG S.2.2.2.1 1 S.2.2.1.toNat else if w = 2 then brA a p W S
  else (S.1 + 1) * W - flG S.2.2.2.1 0 S.2.2.1.toNat - flG S.2.2.2.1 1 S.2.2.1.toNat - brA a p W S
def aHolds (a : AS) (p w : Int) : Int := if (0 ≤ p ∧ p ≤ a.1.1.2.2 - 1) ∧ (0 ≤ w ∧ w ≤ 3) then hdA a p a.1.1.1 w (lyA a p a.1.1.1) else -1
/-! leaders and places in the text -/
def PB (S : LSt) : Prop := ∀ i : Int, 0 ≤ i → i < S.2.2.1 → (0 ≤ (S.2.2.2.1 i).2.2.2.1 ∧ (S.2.2.2.1 i).2.2.2.1 ≤ 3) ∧ (0 ≤ (S.2.2.2.1 i).2.2.2.2 ∧ (S.2.2.2.1 i).2.2.2.2 ≤ 80)
theorem PB.seg {S : LSt} {l d s : Int} (h : PB S) (hd : 0 ≤ d ∧ d ≤ 3) (hs : 0 ≤ s ∧ s ≤ 80) : PB (sSeg S l d s) := by
  intro i i1 i2
  have i2 : i < S.2.2.1 + 1 := i2
  show (0 ≤ (if i = S.2.2.1 then (S.1, S.2.1, l, d, s) else S.2.2.2.1 i).2.2.2.1 ∧ (if i = S.2.2.1 then (S.1, S.2.1, l, d, s) else S.2.2.2.1 i).2.2.2.1 ≤ 3) ∧ (0 ≤ (if i = S.2.2.1 then (S.1, S.2.1, l, d, s) else S.2.2.2.1 i).2.2.2.2 ∧ (if i = S.2.2.1 then (S.1, S.2.1, l, d, s) else S.2.2.2.1 i).2.2.2.2 ≤ 80)
  by_cases hi : i = S.2.2.1
  · rw [if_pos hi]; exact ⟨hd, hs⟩
  · rw [if_neg hi]; exact h i i1 (by omega)
theorem PB.fill {S : LSt} (cur : Int) (h : PB S) : PB (sFill cur S) := by
  have e := sFill_same cur S
  unfold PB
  rw [e.2.2.1, e.2.2.2]
  exact h
theorem PB.beg {S : LSt} {cur p k m : Int} (h : PB S) : PB (sBeg cur S p k m) := h
theorem PB.pl {W H cur e : Int} (he : e ≤ 80) : ∀ (n : Nat) (S : LSt) (r : Int), PB S → 0 ≤ e - r → PB (sPl W H cur e n S r)
  | 0, S, r, h, _ => h
  | n + 1, S, r, h, h0 => by
    unfold sPl
    split
    · have h1 : PB (sPc W cur e S r) := (h.seg (l := pcL W S.2.1 r) (d := 0) (s := e - r) (by omega) (by omega)).fill cur
      have hp : 0 ≤ pcL W S.2.1 r := by
        unfold pcL
        split <;> (split <;> omega)
      split
      · exact PB.pl he n _ _ h1 (by omega)
      · exact h1
    · exact h
theorem PB.fl {W H cur : Int} {st ln : Int → Int} {a b : Int} (hW : ∀ w : Int, a ≤ w → w < b → 0 ≤ st w ∧ st w + ln w ≤ 80) : ∀ (n : Nat) (w : Int) (S : LSt), w + n = b → a ≤ w → PB S → PB (sFl W H cur st ln a n w S)
  | 0, w, S, _, _, h => h
  | n + 1, w, S, h0, h1, h => by
    have hw := hW w h1 (by omega)
    show PB (sFl W H cur st ln a n (w + 1) (sPl W H cur (st w + ln w) (ln w).toNat (if a < w then sGap W H (ln w) S else S) (ln w)))
    refine PB.fl hW n (w + 1) _ (by omega) (by omega) (PB.pl hw.2 _ _ _ ?_ (by omega))
    split
    · unfold sGap
      split <;> exact h
    · exact h
theorem PB.tab {W D H cur : Int} {g ch st ln pt : Int → Int} {fr to a b : Int} {S : LSt} (hD : 2 ≤ D ∧ D ≤ 20) (hg : SV g) (hc : 0 ≤ S.2.1) (hF : Fp ch st ln pt fr to a b) (hto : to ≤ 80) (h : PB S) : PB (sTab W D H g st ln pt cur a b S) := by
  have hab := hF.1.1
  have hp := tPos_bd (c := S.2.1) hD hc hg
  have hr := sRun_bd (room := W - (if tKd g S.2.1 = 0 then tPos g D S.2.1 else S.2.1)) hab hF.ln
  have er : sRun ln pt (W - (if tKd g S.2.1 = 0 then tPos g D S.2.1 else S.2.1)) a b = tRun W D g ln pt a b S.2.1 := rfl
  rw [er] at hr
  have hw : ∀ w : Int, a ≤ w → w < b → 0 ≤ st w ∧ st w + ln w ≤ 80 := fun w w1 w2 => by
    have := (hF.1.2.2.2 w w1 w2).1
    omega
  unfold sTab
  generalize tRun W D g ln pt a b S.2.1 = t at hr ⊢
  have hs : PB (sSt W cur (tPos g D S.2.1) (tKd g S.2.1) (tLd g S.2.1) t S) := by
    unfold sSt
    refine PB.beg ?_
    split
    · exact h.seg hp.2.2 (by omega)
    · exact h
  by_cases hb : W < tPos g D S.2.1 ∨ (a < b ∧ t.1 = a)
  · rw [if_pos hb]
    exact PB.fl hw _ _ _ (by omega) (Int.le_refl _) h
  · rw [if_neg hb]
    have h1 := PB.fl (W := W) (H := H) (cur := cur) (fun w w1 w2 => hw w w1 (by omega)) (t.1 - a).toNat a _ (b := t.1) (by omega) (Int.le_refl _) hs
    by_cases hre : t.1 < b
    · rw [if_pos hre]
      exact PB.fl (fun w w1 w2 => hw w (by omega) w2) _ _ _ (by omega) (Int.le_refl _) h1
    · rw [if_neg hre]
      exact h1
theorem layS_pb {W D : Int} {y v : YV} (hW : 20 ≤ W) (hD : 2 ≤ D ∧ D ≤ 20) (hy : WfY y) (hv : WfP v) : PB (layS W D y v) := by
  obtain ⟨h1, fs, h2⟩ := (wdT_ok hv).fs
  have hH := hy.2.1
  have hF := hy.1
  have hl := hv.2.1
  unfold layS
  generalize wdT v = T at h1 h2 ⊢
  have h3 := sFs_inv (W := W) (D := D) (H := y.2.1) (g := y.2.2) (c0 := y.1) ⟨hH.1, by omega⟩ hD hy.2.2.1 ⟨hF.1, by omega⟩ h2
  have key : ∀ n : Nat, (n : Int) ≤ T.2.2.1 → PB (sFs W D y.2.1 y.2.2 T n (S0 y.1)) := by
    intro n
    induction n with
    | zero => intro _ i i1 i2; have i2 : i < 0 := i2; omega
    | succ n ih =>
      intro hn
      have hp := ih (by omega)
      have hf := h2.fp (f := n) (by omega) (by omega)
      have hf2 := (h2.2.2 n (by omega) (by omega)).2.1
      have hc : 0 ≤ (sFs W D y.2.1 y.2.2 T n (S0 y.1)).2.1 := by
        rcases h3 n (by omega) with h | h
        · rw [h.2]; exact hF.1
        · exact h.2.2.1.1
      show PB (sFd W D y.2.1 y.2.2 T n (sFs W D y.2.1 y.2.2 T n (S0 y.1)))
      unfold sFd
      split
      · have hab := hf.1.1
        refine PB.fl (b := T.2.2.2.2.2.2 n) (fun w w1 w2 => ?_) _ _ _ (by omega) (Int.le_refl _) hp
        have := (hf.1.2.2.2 w w1 w2).1
        omega
      · exact hp.tab hD hy.2.2.1 hc hf (by omega)
  exact key _ (by omega)
set_option maxHeartbeats 4000000 in
set_option maxRecDepth 100000 in
theorem c_pieceAt (I : Mem) (R : RMem) (hRO : RefOk R) {W k : Int} {S : LSt} (hWr : 20 ≤ W ∧ W ≤ 80) (hL : LI I S k) (hv : Inv W S 80 80) (r q : Int) (hr : -2147483648 ≤ r ∧ r ≤ 2147483647) (hq : -2147483648 ≤ q ∧ q ≤ 2147483647) : CC 2 0 0 yX2_pieceAt cX2_pieceAt 4 (some .int) [.inr (some 40), .inl (r), .inl (q)] (290, ShF, I, R) (PF (pcAt S.2.2.2.1 r q S.2.2.1.toNat) I R) := by
  have hn := hL.2.2.1
  have hpc := hL.2.2.2.1
  have hi3 := hv.2.2.1
  have hi4 := hv.2.2.2.1
  have hi1 := hv.1
  have hloop : ∀ (n : Nat) (i : Int), 80 < i + n → (0 ≤ i ∧ i ≤ S.2.2.1) → pcAt S.2.2.2.1 r q i.toNat = -1 → WW cX2_pieceAt RX2 4 (some .int) false 2 0 0 (PF (pcAt S.2.2.2.1 r q S.2.2.1.toNat) I R) 0 0 2 [some (.inr (some 40)), some (.inl (r)), some (.inl (q)), some (.inl (i))] [] (290, ShF, I, R) := by
    intro n
    induction n with
    | zero => intros; exfalso; omega
    | succ n ih =>
      intro i g1 g2 g3
      refine r_iload_n dX2_pieceAt_2 rfl ?_
      refine r_aload_n dX2_pieceAt_3 rfl ?_
      refine q_getI fl_X2_27 dX2_pieceAt_4 sf_40 ?_
      rw [hn]
      refine r_icmpge (tgt := 62) dX2_pieceAt_7 (by decide) (by omega) (by omega) (fun h7 => ?_) (fun h7 => ?_)
      · refine r_iconst dX2_pieceAt_62 ?_
        refine q_iretF dX2_pieceAt_63 rfl ?_
        rw [show S.2.2.1 = i by omega]
        exact g3.symm
      · refine r_iload_n dX2_pieceAt_10 rfl ?_
        refine r_bipush dX2_pieceAt_11 (by decide) ?_
        refine r_icmpge (tgt := 62) dX2_pieceAt_13 (by decide) (by omega) (by omega) (fun h13 => ?_) (fun h13 => ?_)
        · refine r_iconst dX2_pieceAt_62 ?_
          refine q_iretF dX2_pieceAt_63 rfl ?_
          rw [show S.2.2.1 = i by omega]
          exact g3.symm
        · refine r_aload_n dX2_pieceAt_16 rfl ?_
          refine q_getR fl_X2_11 dX2_pieceAt_17 sf_40 (ro_40_1 hRO) ?_
          refine r_iload_n dX2_pieceAt_20 rfl ?_
          have hpi := hpc i (by omega) (by omega)
          have hb := hi4 i (by omega) (by omega)
          have hst : pcAt S.2.2.2.1 r q (i + 1).toNat = if (S.2.2.2.1 i).1 = r ∧ (S.2.2.2.1 i).2.1 ≤ q ∧ q ≤ (S.2.2.2.1 i).2.1 + (S.2.2.2.1 i).2.2.1 - 1 then i else -1 := by
            rw [show (i + 1).toNat = i.toNat + 1 by omega]
            show (if pcAt S.2.2.2.1 r q i.toNat ≠ -1 then pcAt S.2.2.2.1 r q i.toNat else if (S.2.2.2.1 ((i.toNat : Nat) : Int)).1 = r ∧ (S.2.2.2.1 ((i.toNat : Nat) : Int)).2.1 ≤ q ∧ q ≤ (S.2.2.2.1 ((i.toNat : Nat) : Int)).2.1 + (S.2.2.2.1 ((i.toNat : Nat) : Int)).2.2.1 - 1 then ((i.toNat : Nat) : Int) else -1) = _
            rw [if_neg (by omega), show ((i.toNat : Nat) : Int) = i by omega]
          refine q_iald dX2_pieceAt_21 sf_41 (by omega) ?_
          rw [hpi.1]
          refine r_iload_n dX2_pieceAt_22 rfl ?_
          refine r_icmpne (tgt := 56) dX2_pieceAt_23 (by decide) (by omega) (by omega) (fun h23 => ?_) (fun h23 => ?_)
          · refine r_iinc dX2_pieceAt_56 rfl (by decide) ?_
            dsimp only [lset]
            refine r_goto (tgt := 2) dX2_pieceAt_59 (by decide) ?_
            exact ih (i + 1) (by omega) (by omega) (by rw [hst, if_neg (by omega)])
          · refine r_iload_n dX2_pieceAt_26 rfl ?_
            refine r_aload_n dX2_pieceAt_27 rfl ?_
            refine q_getR fl_X2_15 dX2_pieceAt_28 sf_40 (ro_40_2 hRO) ?_
            refine r_iload_n dX2_pieceAt_31 rfl ?_
            refine q_iald dX2_pieceAt_32 sf_42 (by omega) ?_
            rw [hpi.2.1]
            refine r_aload_n dX2_pieceAt_33 rfl ?_
            refine q_getR fl_X2_15 dX2_pieceAt_34 sf_40 (ro_40_2 hRO) ?_
            refine r_iload_n dX2_pieceAt_37 rfl ?_
            refine q_iald dX2_pieceAt_38 sf_42 (by omega) ?_
            rw [hpi.2.1]
            refine r_aload_n dX2_pieceAt_39 rfl ?_
            refine q_getR fl_X2_18 dX2_pieceAt_40 sf_40 (ro_40_3 hRO) ?_
            refine r_iload_n dX2_pieceAt_43 rfl ?_
            refine q_iald dX2_pieceAt_44 sf_43 (by omega) ?_
            rw [hpi.2.2.1]
            refine r_iadd dX2_pieceAt_45 ?_
            refine r_iconst dX2_pieceAt_46 ?_
            refine r_isub dX2_pieceAt_47 ?_
            refine q_callSF lk_X2_31 dX2_pieceAt_48 (c_isWithin I R q _ _ hq (by omega) (by omega)) (by decide) rfl rfl (Nat.le_of_ble_eq_true rfl) (by decide) ?_
            refine q_ifeqB (tgt := 56) dX2_pieceAt_51 (by decide) (fun h51 => ?_) (fun h51 => ?_)
            · refine r_iinc dX2_pieceAt_56 rfl (by decide) ?_
              dsimp only [lset]
              refine r_goto (tgt := 2) dX2_pieceAt_59 (by decide) ?_
              exact ih (i + 1) (by omega) (by omega) (by rw [hst, if_neg (by omega)])
            · refine r_iload_n dX2_pieceAt_54 rfl ?_
              refine q_iretF dX2_pieceAt_55 rfl ?_
              rw [if_pos (by omega)] at hst
              have := pcAt_keep (P := S.2.2.2.1) (r := r) (q := q) (m := (i + 1).toNat) (by omega) S.2.2.1.toNat (by omega)
              rw [this, hst]
  refine CC_of (own := RX2) (ini := false) (by decide +kernel) rfl (fun h => absurd h (by decide)) (Nat.le_of_ble_eq_true rfl) ?_
  show WW cX2_pieceAt RX2 4 (some .int) false 2 0 0 (PF (pcAt S.2.2.2.1 r q S.2.2.1.toNat) I R) 0 0 0 [some (.inr (some 40)), some (.inl (r)), some (.inl (q)), none] [] (290, ShF, I, R)
  refine r_iconst dX2_pieceAt_0 ?_
  refine r_istore_n dX2_pieceAt_1 (by decide) ?_
  dsimp only [lset]
  exact hloop 81 0 (by omega) (by omega) rfl
set_option maxHeartbeats 4000000 in
set_option maxRecDepth 100000 in
theorem c_filled (I : Mem) (R : RMem) (hRO : RefOk R) {W k : Int} {S : LSt} (hWr : 20 ≤ W ∧ W ≤ 80) (hL : LI I S k) (hv : Inv W S 80 80) (b : Int) (hb : b = 0 ∨ b = 1) (hld : PB S) : CC 0 0 0 yX2_filled cX2_filled 4 (some .int) [.inr (some 40), .inl (b)] (290, ShF, I, R) (PF (flG S.2.2.2.1 b S.2.2.1.toNat) I R) := by
  have hn := hL.2.2.1
  have hpc := hL.2.2.2.1
  have hi3 := hv.2.2.1
  have hi4 := hv.2.2.2.1
  have hi1 := hv.1
  have hloop : ∀ (n : Nat) (s i : Int), 80 < i + n → (0 ≤ i ∧ i ≤ S.2.2.1) → s = flG S.2.2.2.1 b i.toNat → WW cX2_filled RX2 4 (some .int) false 0 0 0 (PF (flG S.2.2.2.1 b S.2.2.1.toNat) I R) 0 0 4 [some (.inr (some 40)), some (.inl (b)), some (.inl (s)), some (.inl (i))] [] (290, ShF, I, R) := by
    intro n
    induction n with
    | zero => intros; exfalso; omega
    | succ n ih =>
      intro s i g1 g2 g3
      refine r_iload_n dX2_filled_4 rfl ?_
      refine r_aload_n dX2_filled_5 rfl ?_
      refine q_getI fl_X2_27 dX2_filled_6 sf_40 ?_
      rw [hn]
      refine r_icmpge (tgt := 51) dX2_filled_9 (by decide) (by omega) (by omega) (fun h9 => ?_) (fun h9 => ?_)
      · refine r_iload_n dX2_filled_51 rfl ?_
        refine q_iretF dX2_filled_52 rfl ?_
        rw [show S.2.2.1 = i by omega]
        exact g3
      · refine r_iload_n dX2_filled_12 rfl ?_
        refine r_bipush dX2_filled_13 (by decide) ?_
        refine r_icmpge (tgt := 51) dX2_filled_15 (by decide) (by omega) (by omega) (fun h15 => ?_) (fun h15 => ?_)
        · refine r_iload_n dX2_filled_51 rfl ?_
          refine q_iretF dX2_filled_52 rfl ?_
          rw [show S.2.2.1 = i by omega]
          exact g3
        · refine r_iload_n dX2_filled_18 rfl ?_
          refine r_aload_n dX2_filled_19 rfl ?_
          refine q_getR fl_X2_21 dX2_filled_20 sf_40 (ro_40_4 hRO) ?_
          refine r_iload_n dX2_filled_23 rfl ?_
          have hpi := hpc i (by omega) (by omega)
          have hlb := hld i (by omega) (by omega)
          have hst : flG S.2.2.2.1 b (i + 1).toNat = flG S.2.2.2.1 b i.toNat + (if ((S.2.2.2.1 i).2.2.2.1 = 0 ∧ b = 0) ∨ ((S.2.2.2.1 i).2.2.2.1 ≠ 0 ∧ b = 1) then (S.2.2.2.1 i).2.2.1 else 0) := by
            rw [show (i + 1).toNat = i.toNat + 1 by omega]
            show flG S.2.2.2.1 b i.toNat + (if ((S.2.2.2.1 ((i.toNat : Nat) : Int)).2.2.2.1 = 0 ∧ b = 0) ∨ ((S.2.2.2.1 ((i.toNat : Nat) : Int)).2.2.2.1 ≠ 0 ∧ b = 1) then (S.2.2.2.1 ((i.toNat : Nat) : Int)).2.2.1 else 0) = _
            rw [show ((i.toNat : Nat) : Int) = i by omega]
          refine q_iald dX2_filled_24 sf_44 (by omega) ?_
          rw [hpi.2.2.2.1]
          refine r_ifeq (tgt := 32) dX2_filled_25 (by decide) (by omega) (fun h25 => ?_) (fun h25 => ?_)
          · refine r_iconst dX2_filled_32 ?_
            refine r_icmpne (tgt := 45) dX2_filled_33 (by decide) (by omega) (by omega) (fun h33 => ?_) (fun h33 => ?_)
            · refine r_iinc dX2_filled_45 rfl (by decide) ?_
              dsimp only [lset]
              refine r_goto (tgt := 4) dX2_filled_48 (by decide) ?_
              first
                | exact ih _ (i + 1) (by omega) (by omega) (by rw [hst, if_pos (by omega), g3])
                | exact ih _ (i + 1) (by omega) (by omega) (by rw [hst, if_neg (by omega), g3]; omega)
            · refine r_iload_n dX2_filled_36 rfl ?_
              refine r_aload_n dX2_filled_37 rfl ?_
              refine q_getR fl_X2_18 dX2_filled_38 sf_40 (ro_40_3 hRO) ?_
              refine r_iload_n dX2_filled_41 rfl ?_
              refine q_iald dX2_filled_42 sf_43 (by omega) ?_
              rw [hpi.2.2.1]
              refine r_iadd dX2_filled_43 ?_
              refine r_istore_n dX2_filled_44 (by decide) ?_
              dsimp only [lset]
              refine r_iinc dX2_filled_45 rfl (by decide) ?_
              dsimp only [lset]
              refine r_goto (tgt := 4) dX2_filled_48 (by decide) ?_
              first
                | exact ih _ (i + 1) (by omega) (by omega) (by rw [hst, if_pos (by omega), g3])
                | exact ih _ (i + 1) (by omega) (by omega) (by rw [hst, if_neg (by omega), g3]; omega)
          · refine r_iconst dX2_filled_28 ?_
            refine r_goto (tgt := 33) dX2_filled_29 (by decide) ?_
            refine r_icmpne (tgt := 45) dX2_filled_33 (by decide) (by omega) (by omega) (fun h33 => ?_) (fun h33 => ?_)
            · refine r_iinc dX2_filled_45 rfl (by decide) ?_
              dsimp only [lset]
              refine r_goto (tgt := 4) dX2_filled_48 (by decide) ?_
              first
                | exact ih _ (i + 1) (by omega) (by omega) (by rw [hst, if_pos (by omega), g3])
                | exact ih _ (i + 1) (by omega) (by omega) (by rw [hst, if_neg (by omega), g3]; omega)
            · refine r_iload_n dX2_filled_36 rfl ?_
              refine r_aload_n dX2_filled_37 rfl ?_
              refine q_getR fl_X2_18 dX2_filled_38 sf_40 (ro_40_3 hRO) ?_
              refine r_iload_n dX2_filled_41 rfl ?_
              refine q_iald dX2_filled_42 sf_43 (by omega) ?_
              rw [hpi.2.2.1]
              refine r_iadd dX2_filled_43 ?_
              refine r_istore_n dX2_filled_44 (by decide) ?_
              dsimp only [lset]
              refine r_iinc dX2_filled_45 rfl (by decide) ?_
              dsimp only [lset]
              refine r_goto (tgt := 4) dX2_filled_48 (by decide) ?_
              first
                | exact ih _ (i + 1) (by omega) (by omega) (by rw [hst, if_pos (by omega), g3])
                | exact ih _ (i + 1) (by omega) (by omega) (by rw [hst, if_neg (by omega), g3]; omega)
  refine CC_of (own := RX2) (ini := false) (by decide +kernel) rfl (fun h => absurd h (by decide)) (Nat.le_of_ble_eq_true rfl) ?_
  show WW cX2_filled RX2 4 (some .int) false 0 0 0 (PF (flG S.2.2.2.1 b S.2.2.1.toNat) I R) 0 0 0 [some (.inr (some 40)), some (.inl (b)), none, none] [] (290, ShF, I, R)
  refine r_iconst dX2_filled_0 ?_
  refine r_istore_n dX2_filled_1 (by decide) ?_
  dsimp only [lset]
  refine r_iconst dX2_filled_2 ?_
  refine r_istore_n dX2_filled_3 (by decide) ?_
  dsimp only [lset]
  exact hloop 81 0 0 (by omega) (by omega) rfl
set_option maxHeartbeats 4000000 in
set_option maxRecDepth 100000 in
theorem c_barColumns (I : Mem) (R : RMem) (hRO : RefOk R) {W k : Int} {S : LSt} (hWr : 20 ≤ W ∧ W ≤ 80) (hL : LI I S k) (hv : Inv W S 80 80) (hW3 : I 34 3 = W) {b b1 : Nat} (hb : StyAt R b b1) {g : Int → Int} (hg : SV g) (hgg : ∀ p : Int, 1 ≤ p → p ≤ 80 → I b1 p = g p) : CC 3 0 0 yX0_barColumns cX0_barColumns 5 (some .int) [.inr (some 34), .inr (some (b))] (290, ShF, I, R) (PF (brG S.2.2.2.1 S.2.2.1.toNat g (S.1 + 1).toNat (W - 1).toNat) I R) := by
  have hn := hL.2.2.1
  have hpc := hL.2.2.2.1
  have hi3 := hv.2.2.1
  have hi4 := hv.2.2.2.1
  have hi1 := hv.1
  have hsv : SV (I b1) := fun p q1 q2 => by rw [hgg p q1 q2]; exact hg p q1 q2
  have hrows : ∀ (p : Int), (1 ≤ p ∧ p < W) → 17 ≤ g p → (∀ (u4 : Option MV), WW cX0_barColumns RX0 5 (some .int) false 3 0 0 (PF (brG S.2.2.2.1 S.2.2.1.toNat g (S.1 + 1).toNat (W - 1).toNat) I R) 0 0 62 [some (.inr (some 34)), some (.inr (some b)), some (.inl (brG S.2.2.2.1 S.2.2.1.toNat g (S.1 + 1).toNat p.toNat)), some (.inl p), u4] [] (290, ShF, I, R)) → ∀ (n : Nat) (s l : Int), S.1 + 1 < l + n → (0 ≤ l ∧ l ≤ S.1 + 1) → s = brG S.2.2.2.1 S.2.2.1.toNat g (S.1 + 1).toNat (p - 1).toNat + brR S.2.2.2.1 S.2.2.1.toNat p l.toNat → WW cX0_barColumns RX0 5 (some .int) false 3 0 0 (PF (brG S.2.2.2.1 S.2.2.1.toNat g (S.1 + 1).toNat (W - 1).toNat) I R) 0 0 30 [some (.inr (some 34)), some (.inr (some b)), some (.inl s), some (.inl p), some (.inl l)] [] (290, ShF, I, R) := by
    intro p hp hg17 hK n
    induction n with
    | zero => intros; exfalso; omega
    | succ n ih =>
      intro s l g1 g2 g3
      refine r_iload dX0_barColumns_30 rfl ?_
      refine r_aload_n dX0_barColumns_32 rfl ?_
      refine q_getI fl_X0_30 dX0_barColumns_33 sf_34 ?_
      rw [hL.1]
      refine r_icmpgt (tgt := 62) dX0_barColumns_36 (by decide) (by omega) (by omega) (fun h36 => ?_) (fun h36 => ?_)
      · have hlast : brG S.2.2.2.1 S.2.2.1.toNat g (S.1 + 1).toNat p.toNat = brG S.2.2.2.1 S.2.2.1.toNat g (S.1 + 1).toNat (p - 1).toNat + brR S.2.2.2.1 S.2.2.1.toNat p (S.1 + 1).toNat := by
          rw [show p.toNat = (p - 1).toNat + 1 by omega]
          show brG S.2.2.2.1 S.2.2.1.toNat g (S.1 + 1).toNat (p - 1).toNat + (if 17 ≤ g ((((p - 1).toNat : Nat) : Int) + 1) then brR S.2.2.2.1 S.2.2.1.toNat ((((p - 1).toNat : Nat) : Int) + 1) (S.1 + 1).toNat else 0) = _
          rw [show (((p - 1).toNat : Nat) : Int) + 1 = p by omega, if_pos hg17]
        rw [show l = S.1 + 1 by omega] at g3
        rw [g3, ← hlast]
        exact hK _
      · refine r_aload_n dX0_barColumns_39 rfl ?_
        refine q_getR fl_X0_21 dX0_barColumns_40 sf_34 (ro_34_1 hRO) ?_
        refine r_iload dX0_barColumns_43 rfl ?_
        refine r_iload_n dX0_barColumns_45 rfl ?_
        refine q_callVF lk_X0_146 dX0_barColumns_46 (c_pieceAt I R hRO hWr hL hv l p (by omega) (by omega)) (by decide) sf_40 rfl rfl (Nat.le_of_ble_eq_true rfl) (by decide) ?_
        have hpb := pcAt_bd S.2.2.2.1 l p S.2.2.1.toNat
        have hst : brR S.2.2.2.1 S.2.2.1.toNat p (l + 1).toNat = brR S.2.2.2.1 S.2.2.1.toNat p l.toNat + (if pcAt S.2.2.2.1 l p S.2.2.1.toNat = -1 then 1 else 0) := by
          rw [show (l + 1).toNat = l.toNat + 1 by omega]
          show brR S.2.2.2.1 S.2.2.1.toNat p l.toNat + (if pcAt S.2.2.2.1 ((l.toNat : Nat) : Int) p S.2.2.1.toNat = -1 then 1 else 0) = _
          rw [show ((l.toNat : Nat) : Int) = l by omega]
        refine r_iconst dX0_barColumns_49 ?_
        refine r_icmpne (tgt := 56) dX0_barColumns_50 (by decide) (by omega) (by omega) (fun h50 => ?_) (fun h50 => ?_)
        · refine r_iinc dX0_barColumns_56 rfl (by decide) ?_
          dsimp only [lset]
          refine r_goto (tgt := 30) dX0_barColumns_59 (by decide) ?_
          first
            | exact ih _ (l + 1) (by omega) (by omega) (by rw [hst, if_pos (by omega), g3]; omega)
            | exact ih _ (l + 1) (by omega) (by omega) (by rw [hst, if_neg (by omega), g3]; omega)
        · refine r_iinc dX0_barColumns_53 rfl (by decide) ?_
          dsimp only [lset]
          refine r_iinc dX0_barColumns_56 rfl (by decide) ?_
          dsimp only [lset]
          refine r_goto (tgt := 30) dX0_barColumns_59 (by decide) ?_
          first
            | exact ih _ (l + 1) (by omega) (by omega) (by rw [hst, if_pos (by omega), g3]; omega)
            | exact ih _ (l + 1) (by omega) (by omega) (by rw [hst, if_neg (by omega), g3]; omega)
  have hloop : ∀ (n : Nat) (s p : Int) (u4 : Option MV), 80 < p + n → (1 ≤ p ∧ p ≤ W) → s = brG S.2.2.2.1 S.2.2.1.toNat g (S.1 + 1).toNat (p - 1).toNat → WW cX0_barColumns RX0 5 (some .int) false 3 0 0 (PF (brG S.2.2.2.1 S.2.2.1.toNat g (S.1 + 1).toNat (W - 1).toNat) I R) 0 0 4 [some (.inr (some 34)), some (.inr (some (b))), some (.inl (s)), some (.inl (p)), u4] [] (290, ShF, I, R) := by
    intro n
    induction n with
    | zero => intros; exfalso; omega
    | succ n ih =>
      intro s p u4 g1 g2 g3
      refine r_iload_n dX0_barColumns_4 rfl ?_
      refine r_aload_n dX0_barColumns_5 rfl ?_
      refine q_getI fl_X0_41 dX0_barColumns_6 sf_34 ?_
      rw [hW3]
      refine r_icmpge (tgt := 68) dX0_barColumns_9 (by decide) (by omega) (by omega) (fun h9 => ?_) (fun h9 => ?_)
      · refine r_iload_n dX0_barColumns_68 rfl ?_
        refine q_iretF dX0_barColumns_69 rfl ?_
        rw [g3, show p - 1 = W - 1 by omega]
      · refine r_iload_n dX0_barColumns_12 rfl ?_
        refine r_bipush dX0_barColumns_13 (by decide) ?_
        refine r_icmpgt (tgt := 68) dX0_barColumns_15 (by decide) (by omega) (by omega) (fun h15 => ?_) (fun h15 => ?_)
        · refine r_iload_n dX0_barColumns_68 rfl ?_
          refine q_iretF dX0_barColumns_69 rfl ?_
          rw [g3, show p - 1 = W - 1 by omega]
        · refine r_aload_n dX0_barColumns_18 rfl ?_
          refine r_iload_n dX0_barColumns_19 rfl ?_
          refine q_callVF lk_X0_91 dX0_barColumns_20 (c_kindAt I R hb hsv p (by omega)) (by decide) hb.1 rfl rfl (Nat.le_of_ble_eq_true rfl) (by decide) ?_
          have hgp := hgg p (by omega) (by omega)
          have hgb := hg p (by omega) (by omega)
          rw [hgp]
          have hkd : (if 1 ≤ p ∧ p ≤ 80 ∧ g p ≠ 0 then (g p - 1) / 4 else -9) = 4 ↔ 17 ≤ g p := by
            split <;> omega
          generalize hkg : (if 1 ≤ p ∧ p ≤ 80 ∧ g p ≠ 0 then (g p - 1) / 4 else -9) = kk at hkd
          have hkr : -9 ≤ kk ∧ kk ≤ 10 := by
            rw [← hkg]
            split <;> omega
          refine r_iconst dX0_barColumns_23 ?_
          refine r_icmpne (tgt := 62) dX0_barColumns_24 (by decide) (by omega) (by omega) (fun h24 => ?_) (fun h24 => ?_)
          · have hst : brG S.2.2.2.1 S.2.2.1.toNat g (S.1 + 1).toNat p.toNat = brG S.2.2.2.1 S.2.2.1.toNat g (S.1 + 1).toNat (p - 1).toNat := by
              rw [show p.toNat = (p - 1).toNat + 1 by omega]
              show brG S.2.2.2.1 S.2.2.1.toNat g (S.1 + 1).toNat (p - 1).toNat + (if 17 ≤ g ((((p - 1).toNat : Nat) : Int) + 1) then brR S.2.2.2.1 S.2.2.1.toNat ((((p - 1).toNat : Nat) : Int) + 1) (S.1 + 1).toNat else 0) = _
              rw [show (((p - 1).toNat : Nat) : Int) + 1 = p by omega, if_neg (by omega)]
              omega
            refine r_iinc dX0_barColumns_62 rfl (by decide) ?_
            dsimp only [lset]
            refine r_goto (tgt := 4) dX0_barColumns_65 (by decide) ?_
            exact ih _ (p + 1) _ (by omega) (by omega) (by rw [show p + 1 - 1 = p by omega, hst, g3])
          · refine r_iconst dX0_barColumns_27 ?_
            refine r_istore dX0_barColumns_28 (by decide) ?_
            dsimp only [lset]
            refine hrows p (by omega) (by omega) (fun u => ?_) ((S.1 + 1).toNat + 1) s 0 (by omega) (by omega) (by rw [g3]; show _ = _ + (0 : Int); omega)
            refine r_iinc dX0_barColumns_62 rfl (by decide) ?_
            dsimp only [lset]
            refine r_goto (tgt := 4) dX0_barColumns_65 (by decide) ?_
            exact ih _ (p + 1) _ (by omega) (by omega) (by rw [show p + 1 - 1 = p by omega])
  refine CC_of (own := RX0) (ini := false) (by decide +kernel) rfl (fun h => absurd h (by decide)) (Nat.le_of_ble_eq_true rfl) ?_
  show WW cX0_barColumns RX0 5 (some .int) false 3 0 0 (PF (brG S.2.2.2.1 S.2.2.1.toNat g (S.1 + 1).toNat (W - 1).toNat) I R) 0 0 0 [some (.inr (some 34)), some (.inr (some (b))), none, none, none] [] (290, ShF, I, R)
  refine r_iconst dX0_barColumns_0 ?_
  refine r_istore_n dX0_barColumns_1 (by decide) ?_
  dsimp only [lset]
  refine r_iconst dX0_barColumns_2 ?_
  refine r_istore_n dX0_barColumns_3 (by decide) ?_
  dsimp only [lset]
  exact hloop 81 0 1 _ (by omega) (by omega) rfl
