/-! what writes into styles, paragraphs and states -/
theorem u2_at {α : Type} (f : Nat → Int → α) (a : Nat) (j : Int) (z : α) (a' : Nat) (j' : Int) : u2 f a j z a' j' = if a' = a ∧ j' = j then z else f a' j' := rfl
theorem ro_sty {R : RMem} (h : RefOk R) {k : Nat} (hk : k < 7) {i : Int} (hi : 0 ≤ i ∧ i < 4) : R (stB k + 1) i = some (stB k + (3 + 2 * i.toNat)) ∧ StyAt R (stB k + (3 + 2 * i.toNat)) (stB k + (4 + 2 * i.toNat)) := by
  obtain ⟨j, rfl⟩ : ∃ j : Nat, i = j := ⟨i.toNat, by omega⟩
  have h1 := (ro_st h hk).2.2.1 j (by omega)
  rw [Int.toNat_natCast]
  exact ⟨h1.1, sf_Y hk (by omega), h1.2, sf_YA hk (by omega)⟩
def ParAt (R : RMem) (a a1 : Nat) : Prop := SF a 1 0 ∧ R a 2 = some a1 ∧ SF a1 100 80
theorem ro_par {R : RMem} (h : RefOk R) {k : Nat} (hk : k < 7) {q : Nat} (hq : q < 8) : ParAt R (stB k + (11 + 2 * q)) (stB k + (12 + 2 * q)) := ⟨sf_P hk hq, (ro_st h hk).2.2.2 q hq, sf_PA hk hq⟩
theorem stB_apart {k q : Nat} (h : k ≠ q) : stB k + 27 ≤ stB q ∨ stB q + 27 ≤ stB k := by
  unfold stB
  split <;> split <;> omega
theorem stB_in {k : Nat} (h : k < 7) : 1 ≤ stB k ∧ stB k + 27 ≤ 290 ∧ (k = 0 → stB k = 1) ∧ (k ≠ 0 → 128 ≤ stB k) := by
  unfold stB
  split <;> omega
set_option maxHeartbeats 4000000 in
set_option maxRecDepth 100000 in
theorem c_putStop (I : Mem) (R : RMem) {a a1 : Nat} (hs : StyAt R a a1) (p kd le : Int) (hp : 1 ≤ p ∧ p ≤ 80) (hk : 0 ≤ kd ∧ kd ≤ 4) (hl : 0 ≤ le ∧ le ≤ 3) : CC 2 0 0 yX5_putStop cX5_putStop 4 none [.inr (some (a)), .inl (p), .inl (kd), .inl (le)] (290, ShF, I, R) (PW R (fun I1 => I1 = u2 I a1 p (1 + kd * 4 + le))) := by
  refine CC_of (own := RX5) (ini := false) (by decide +kernel) rfl (fun h => absurd h (by decide)) (Nat.le_of_ble_eq_true rfl) ?_
  show WW cX5_putStop RX5 4 none false 2 0 0 (PW R (fun I1 => I1 = u2 I a1 p (1 + kd * 4 + le))) 0 0 0 [some (.inr (some (a))), some (.inl (p)), some (.inl (kd)), some (.inl (le))] [] (290, ShF, I, R)
  refine r_iload_n dX5_putStop_0 rfl ?_
  refine r_iconst dX5_putStop_1 ?_
  refine r_bipush dX5_putStop_2 (by decide) ?_
  refine q_callSF lk_X5_23 dX5_putStop_4 (c_isWithin I R p 1 80 (by omega) (by decide) (by decide)) (by decide) rfl rfl (Nat.le_of_ble_eq_true rfl) (by decide) ?_
  refine q_ifeqB (tgt := 23) dX5_putStop_7 (by decide) (fun h7 => ?_) (fun h7 => ?_)
  · exact absurd hp h7
  · refine r_aload_n dX5_putStop_10 rfl ?_
    refine q_getR fl_X5_15 dX5_putStop_11 hs.1 hs.2.1 ?_
    refine r_iload_n dX5_putStop_14 rfl ?_
    refine r_iconst dX5_putStop_15 ?_
    refine r_iload_n dX5_putStop_16 rfl ?_
    refine r_iconst dX5_putStop_17 ?_
    refine r_imul dX5_putStop_18 ?_
    refine r_iadd dX5_putStop_19 ?_
    refine r_iload_n dX5_putStop_20 rfl ?_
    refine r_iadd dX5_putStop_21 ?_
    refine q_iast dX5_putStop_22 hs.2.2 (by omega) ?_
    refine q_vretW dX5_putStop_23 rfl ?_
    rfl
set_option maxHeartbeats 4000000 in
set_option maxRecDepth 100000 in
theorem c_dropStop (I : Mem) (R : RMem) {a a1 : Nat} (hs : StyAt R a a1) (p : Int) (hp : 1 ≤ p ∧ p ≤ 80) : CC 2 0 0 yX5_dropStop cX5_dropStop 2 none [.inr (some (a)), .inl (p)] (290, ShF, I, R) (PW R (fun I1 => I1 = u2 I a1 p 0)) := by
  refine CC_of (own := RX5) (ini := false) (by decide +kernel) rfl (fun h => absurd h (by decide)) (Nat.le_of_ble_eq_true rfl) ?_
  show WW cX5_dropStop RX5 2 none false 2 0 0 (PW R (fun I1 => I1 = u2 I a1 p 0)) 0 0 0 [some (.inr (some (a))), some (.inl (p))] [] (290, ShF, I, R)
  refine r_iload_n dX5_dropStop_0 rfl ?_
  refine r_iconst dX5_dropStop_1 ?_
  refine r_bipush dX5_dropStop_2 (by decide) ?_
  refine q_callSF lk_X5_23 dX5_dropStop_4 (c_isWithin I R p 1 80 (by omega) (by decide) (by decide)) (by decide) rfl rfl (Nat.le_of_ble_eq_true rfl) (by decide) ?_
  refine q_ifeqB (tgt := 17) dX5_dropStop_7 (by decide) (fun h7 => ?_) (fun h7 => ?_)
  · exact absurd hp h7
  · refine r_aload_n dX5_dropStop_10 rfl ?_
    refine q_getR fl_X5_15 dX5_dropStop_11 hs.1 hs.2.1 ?_
    refine r_iload_n dX5_dropStop_14 rfl ?_
    refine r_iconst dX5_dropStop_15 ?_
    refine q_iast dX5_dropStop_16 hs.2.2 (by omega) ?_
    refine q_vretW dX5_dropStop_17 rfl ?_
    rfl
set_option maxHeartbeats 4000000 in
set_option maxRecDepth 100000 in
theorem c_takeStopsOf (I : Mem) (R : RMem) {a a1 : Nat} (hs : StyAt R a a1) {o o1 : Nat} (ho : StyAt R o o1) : CC 1 0 0 yX5_takeStopsOf cX5_takeStopsOf 3 none [.inr (some (a)), .inr (some (o))] (290, ShF, I, R) (PW R (fun I1 => ∀ (x : Nat) (j : Int), I1 x j = if x = a1 ∧ 1 ≤ j ∧ j ≤ 80 then I o1 j else I x j)) := by
  have hloop : ∀ (n : Nat) (p : Int) (I1 : Mem), 81 < p + n → 1 ≤ p → p ≤ 81 → (∀ (x : Nat) (j : Int), I1 x j = if x = a1 ∧ 1 ≤ j ∧ j < p then I o1 j else I x j) → WW cX5_takeStopsOf RX5 3 none false 1 0 0 (PW R (fun I1 => ∀ (x : Nat) (j : Int), I1 x j = if x = a1 ∧ 1 ≤ j ∧ j ≤ 80 then I o1 j else I x j)) 0 0 2 [some (.inr (some (a))), some (.inr (some (o))), some (.inl (p))] [] (290, ShF, I1, R) := by
    intro n
    induction n with
    | zero => intros; exfalso; omega
    | succ n ih =>
      intro p I1 g1 g2 g3 g4
      refine r_iload_n dX5_takeStopsOf_2 rfl ?_
      refine r_bipush dX5_takeStopsOf_3 (by decide) ?_
      refine r_icmpgt (tgt := 26) dX5_takeStopsOf_5 (by decide) (by omega) (by omega) (fun h5 => ?_) (fun h5 => ?_)
      · refine q_vretW dX5_takeStopsOf_26 rfl ?_
        intro x j
        rw [g4 x j]
        by_cases h : x = a1 ∧ 1 ≤ j ∧ j ≤ 80
        · rw [if_pos h, if_pos (by omega)]
        · rw [if_neg h, if_neg (by omega)]
      · refine r_aload_n dX5_takeStopsOf_8 rfl ?_
        refine q_getR fl_X5_15 dX5_takeStopsOf_9 hs.1 hs.2.1 ?_
        refine r_iload_n dX5_takeStopsOf_12 rfl ?_
        refine r_aload_n dX5_takeStopsOf_13 rfl ?_
        refine q_getR fl_X5_15 dX5_takeStopsOf_14 ho.1 ho.2.1 ?_
        refine r_iload_n dX5_takeStopsOf_17 rfl ?_
        refine q_iald dX5_takeStopsOf_18 ho.2.2 (by omega) ?_
        refine q_iast dX5_takeStopsOf_19 hs.2.2 (by omega) ?_
        refine r_iinc dX5_takeStopsOf_20 rfl (by decide) ?_
        dsimp only [lset]
        refine r_goto (tgt := 2) dX5_takeStopsOf_23 (by decide) ?_
        refine ih _ _ (by omega) (by omega) (by omega) (fun x j => ?_)
        rw [u2_at, g4 x j, g4 o1 p, if_neg (show ¬ (o1 = a1 ∧ 1 ≤ p ∧ p < p) by omega)]
        by_cases h : x = a1 ∧ j = p
        · rw [if_pos h, if_pos (by omega), h.2]
        · rw [if_neg h]
          by_cases h2 : x = a1 ∧ 1 ≤ j ∧ j < p
          · rw [if_pos h2, if_pos (by omega)]
          · rw [if_neg h2, if_neg (by omega)]
  refine CC_of (own := RX5) (ini := false) (by decide +kernel) rfl (fun h => absurd h (by decide)) (Nat.le_of_ble_eq_true rfl) ?_
  show WW cX5_takeStopsOf RX5 3 none false 1 0 0 (PW R (fun I1 => ∀ (x : Nat) (j : Int), I1 x j = if x = a1 ∧ 1 ≤ j ∧ j ≤ 80 then I o1 j else I x j)) 0 0 0 [some (.inr (some (a))), some (.inr (some (o))), none] [] (290, ShF, I, R)
  refine r_iconst dX5_takeStopsOf_0 ?_
  refine r_istore_n dX5_takeStopsOf_1 (by decide) ?_
  dsimp only [lset]
  exact hloop 81 _ _ (by omega) (by omega) (by omega) (fun x j => by rw [if_neg (by omega)])
set_option maxHeartbeats 4000000 in
set_option maxRecDepth 100000 in
theorem c_append (I : Mem) (R : RMem) {a a1 : Nat} (hs : ParAt R a a1) (hne : a ≠ a1) (c : Int) (hl : 0 ≤ I a 1 ∧ I a 1 ≤ 79) : CC 2 0 0 yX1_append cX1_append 2 none [.inr (some (a)), .inl (c)] (290, ShF, I, R) (PW R (fun I1 => I1 = u2 (u2 I a1 (I a 1) c) a 1 (I a 1 + 1))) := by
  refine CC_of (own := RX1) (ini := false) (by decide +kernel) rfl (fun h => absurd h (by decide)) (Nat.le_of_ble_eq_true rfl) ?_
  show WW cX1_append RX1 2 none false 2 0 0 (PW R (fun I1 => I1 = u2 (u2 I a1 (I a 1) c) a 1 (I a 1 + 1))) 0 0 0 [some (.inr (some (a))), some (.inl (c))] [] (290, ShF, I, R)
  refine r_aload_n dX1_append_0 rfl ?_
  refine q_getI fl_X1_15 dX1_append_1 hs.1 ?_
  refine r_iconst dX1_append_4 ?_
  refine r_bipush dX1_append_5 (by decide) ?_
  refine q_callSF lk_X1_19 dX1_append_7 (c_isWithin I R (I a 1) 0 79 (by omega) (by decide) (by decide)) (by decide) rfl rfl (Nat.le_of_ble_eq_true rfl) (by decide) ?_
  refine q_ifeqB (tgt := 33) dX1_append_10 (by decide) (fun h10 => ?_) (fun h10 => ?_)
  · exact absurd hl h10
  · refine r_aload_n dX1_append_13 rfl ?_
    refine q_getR fl_X1_9 dX1_append_14 hs.1 hs.2.1 ?_
    refine r_aload_n dX1_append_17 rfl ?_
    refine q_getI fl_X1_15 dX1_append_18 hs.1 ?_
    refine r_iload_n dX1_append_21 rfl ?_
    refine q_iast dX1_append_22 hs.2.2 (by omega) ?_
    refine r_aload_n dX1_append_23 rfl ?_
    refine r_dup dX1_append_24 ?_
    refine q_getI fl_X1_15 dX1_append_25 hs.1 ?_
    refine r_iconst dX1_append_28 ?_
    refine r_iadd dX1_append_29 ?_
    refine q_putI fl_X1_15 dX1_append_30 hs.1 ?_
    refine q_vretW dX1_append_33 rfl ?_
    rw [u2_n (Or.inl hne)]
set_option maxHeartbeats 4000000 in
set_option maxRecDepth 100000 in
theorem c_characterAt (I : Mem) (R : RMem) {a a1 : Nat} (hs : ParAt R a a1) (i : Int) (hi : -2147483648 ≤ i ∧ i ≤ 2147483647) (hl : 0 ≤ I a 1 ∧ I a 1 ≤ 80) : CC 1 0 0 yX1_characterAt cX1_characterAt 3 (some .int) [.inr (some (a)), .inl (i)] (290, ShF, I, R) (PF (if 0 ≤ i ∧ i < I a 1 then I a1 i else -9) I R) := by
  refine CC_of (own := RX1) (ini := false) (by decide +kernel) rfl (fun h => absurd h (by decide)) (Nat.le_of_ble_eq_true rfl) ?_
  show WW cX1_characterAt RX1 3 (some .int) false 1 0 0 (PF (if 0 ≤ i ∧ i < I a 1 then I a1 i else -9) I R) 0 0 0 [some (.inr (some (a))), some (.inl (i)), none] [] (290, ShF, I, R)
  refine r_iload_n dX1_characterAt_0 rfl ?_
  refine r_iflt (tgt := 22) dX1_characterAt_1 (by decide) (by omega) (fun h1 => ?_) (fun h1 => ?_)
  · refine r_iconst dX1_characterAt_22 ?_
    refine r_istore_n dX1_characterAt_23 (by decide) ?_
    dsimp only [lset]
    refine r_iload_n dX1_characterAt_24 rfl ?_
    refine r_ifeq (tgt := 37) dX1_characterAt_25 (by decide) (by decide) (fun _ => ?_) (fun h => absurd h (by decide))
    refine r_bipush dX1_characterAt_37 (by decide) ?_
    refine q_iretF dX1_characterAt_39 rfl ?_
    first | exact (if_pos (by omega)).symm | exact (if_neg (by omega)).symm
  · refine r_iload_n dX1_characterAt_4 rfl ?_
    refine r_aload_n dX1_characterAt_5 rfl ?_
    refine q_getI fl_X1_15 dX1_characterAt_6 hs.1 ?_
    refine r_icmpge (tgt := 22) dX1_characterAt_9 (by decide) (by omega) (by omega) (fun h9 => ?_) (fun h9 => ?_)
    · refine r_iconst dX1_characterAt_22 ?_
      refine r_istore_n dX1_characterAt_23 (by decide) ?_
      dsimp only [lset]
      refine r_iload_n dX1_characterAt_24 rfl ?_
      refine r_ifeq (tgt := 37) dX1_characterAt_25 (by decide) (by decide) (fun _ => ?_) (fun h => absurd h (by decide))
      refine r_bipush dX1_characterAt_37 (by decide) ?_
      refine q_iretF dX1_characterAt_39 rfl ?_
      first | exact (if_pos (by omega)).symm | exact (if_neg (by omega)).symm
    · refine r_iload_n dX1_characterAt_12 rfl ?_
      refine r_bipush dX1_characterAt_13 (by decide) ?_
      refine r_icmpge (tgt := 22) dX1_characterAt_15 (by decide) (by omega) (by omega) (fun h15 => ?_) (fun h15 => ?_)
      · refine r_iconst dX1_characterAt_22 ?_
        refine r_istore_n dX1_characterAt_23 (by decide) ?_
        dsimp only [lset]
        refine r_iload_n dX1_characterAt_24 rfl ?_
        refine r_ifeq (tgt := 37) dX1_characterAt_25 (by decide) (by decide) (fun _ => ?_) (fun h => absurd h (by decide))
        refine r_bipush dX1_characterAt_37 (by decide) ?_
        refine q_iretF dX1_characterAt_39 rfl ?_
        first | exact (if_pos (by omega)).symm | exact (if_neg (by omega)).symm
      · refine r_iconst dX1_characterAt_18 ?_
        refine r_goto (tgt := 23) dX1_characterAt_19 (by decide) ?_
        refine r_istore_n dX1_characterAt_23 (by decide) ?_
        dsimp only [lset]
        refine r_iload_n dX1_characterAt_24 rfl ?_
        refine r_ifeq (tgt := 37) dX1_characterAt_25 (by decide) (by decide) (fun h => absurd h (by decide)) (fun _ => ?_)
        refine r_aload_n dX1_characterAt_28 rfl ?_
        refine q_getR fl_X1_9 dX1_characterAt_29 hs.1 hs.2.1 ?_
        refine r_iload_n dX1_characterAt_32 rfl ?_
        refine q_iald dX1_characterAt_33 hs.2.2 (by omega) ?_
        refine r_goto (tgt := 39) dX1_characterAt_34 (by decide) ?_
        refine q_iretF dX1_characterAt_39 rfl ?_
        first | exact (if_pos (by omega)).symm | exact (if_neg (by omega)).symm
set_option maxHeartbeats 4000000 in
set_option maxRecDepth 100000 in
theorem c_takeFrom (I : Mem) (R : RMem) {a a1 : Nat} (hs : ParAt R a a1) {o o1 : Nat} (ho : ParAt R o o1) (hd : a ≠ a1 ∧ o ≠ a ∧ o ≠ a1 ∧ o1 ≠ a ∧ o1 ≠ a1) : CC 1 0 0 yX1_takeFrom cX1_takeFrom 3 none [.inr (some (a)), .inr (some (o))] (290, ShF, I, R) (PW R (fun I1 => I1 a 0 = I o 0 ∧ I1 a 1 = I o 1 ∧ (∀ j : Int, 0 ≤ j → j < 80 → I1 a1 j = I o1 j) ∧ ∀ (x : Nat) (j : Int), x ≠ a → x ≠ a1 → I1 x j = I x j)) := by
  have hloop : ∀ (n : Nat) (p : Int) (I1 : Mem), 80 < p + n → 0 ≤ p → p ≤ 80 → I1 a 0 = I o 0 → I1 a 1 = I o 1 → (∀ j : Int, 0 ≤ j → j < p → I1 a1 j = I o1 j) → (∀ (x : Nat) (j : Int), x ≠ a → x ≠ a1 → I1 x j = I x j) → WW cX1_takeFrom RX1 3 none false 1 0 0 (PW R (fun I1 => I1 a 0 = I o 0 ∧ I1 a 1 = I o 1 ∧ (∀ j : Int, 0 ≤ j → j < 80 → I1 a1 j = I o1 j) ∧ ∀ (x : Nat) (j : Int), x ≠ a → x ≠ a1 → I1 x j = I x j)) 0 0 18 [some (.inr (some (a))), some (.inr (some (o))), some (.inl (p))] [] (290, ShF, I1, R) := by
    intro n
    induction n with
    | zero => intros; exfalso; omega
    | succ n ih =>
      intro p I1 g1 g2 g3 g4 g5 g6 g7
      refine r_iload_n dX1_takeFrom_18 rfl ?_
      refine r_bipush dX1_takeFrom_19 (by decide) ?_
      refine r_icmpge (tgt := 42) dX1_takeFrom_21 (by decide) (by omega) (by omega) (fun h21 => ?_) (fun h21 => ?_)
      · refine q_vretW dX1_takeFrom_42 rfl ?_
        exact ⟨g4, g5, fun j h1 h2 => g6 j h1 (by omega), g7⟩
      · refine r_aload_n dX1_takeFrom_24 rfl ?_
        refine q_getR fl_X1_9 dX1_takeFrom_25 hs.1 hs.2.1 ?_
        refine r_iload_n dX1_takeFrom_28 rfl ?_
        refine r_aload_n dX1_takeFrom_29 rfl ?_
        refine q_getR fl_X1_9 dX1_takeFrom_30 ho.1 ho.2.1 ?_
        refine r_iload_n dX1_takeFrom_33 rfl ?_
        refine q_iald dX1_takeFrom_34 ho.2.2 (by omega) ?_
        refine q_iast dX1_takeFrom_35 hs.2.2 (by omega) ?_
        refine r_iinc dX1_takeFrom_36 rfl (by decide) ?_
        dsimp only [lset]
        refine r_goto (tgt := 18) dX1_takeFrom_39 (by decide) ?_
        refine ih _ _ (by omega) (by omega) (by omega) (by rw [u2_n (Or.inl hd.1)]; exact g4) (by rw [u2_n (Or.inl hd.1)]; exact g5) (fun j h1 h2 => ?_) (fun x j h1 h2 => by rw [u2_n (Or.inl h2)]; exact g7 x j h1 h2)
        rw [u2_at]
        by_cases h : a1 = a1 ∧ j = p
        · rw [if_pos h, h.2]
          exact g7 o1 p hd.2.2.2.1 hd.2.2.2.2
        · rw [if_neg h]
          exact g6 j h1 (by omega)
  refine CC_of (own := RX1) (ini := false) (by decide +kernel) rfl (fun h => absurd h (by decide)) (Nat.le_of_ble_eq_true rfl) ?_
  show WW cX1_takeFrom RX1 3 none false 1 0 0 (PW R (fun I1 => I1 a 0 = I o 0 ∧ I1 a 1 = I o 1 ∧ (∀ j : Int, 0 ≤ j → j < 80 → I1 a1 j = I o1 j) ∧ ∀ (x : Nat) (j : Int), x ≠ a → x ≠ a1 → I1 x j = I x j)) 0 0 0 [some (.inr (some (a))), some (.inr (some (o))), none] [] (290, ShF, I, R)
  refine r_aload_n dX1_takeFrom_0 rfl ?_
  refine r_aload_n dX1_takeFrom_1 rfl ?_
  refine q_getI fl_X1_23 dX1_takeFrom_2 ho.1 ?_
  refine q_putI fl_X1_23 dX1_takeFrom_5 hs.1 ?_
  refine r_aload_n dX1_takeFrom_8 rfl ?_
  refine r_aload_n dX1_takeFrom_9 rfl ?_
  refine q_getI fl_X1_15 dX1_takeFrom_10 ho.1 ?_
  refine q_putI fl_X1_15 dX1_takeFrom_13 hs.1 ?_
  refine r_iconst dX1_takeFrom_16 ?_
  refine r_istore_n dX1_takeFrom_17 (by decide) ?_
  dsimp only [lset]
  refine hloop 81 _ _ (by omega) (by omega) (by omega) ?_ ?_ (fun j h1 h2 => by omega) (fun x j h1 h2 => ?_)
  · rw [u2_n (Or.inr (by decide)), u2_s]
  · rw [u2_s, u2_n (Or.inl hd.2.1)]
  · rw [u2_n (Or.inl h1), u2_n (Or.inl h1)]
/-- what a style, a paragraph, a state is -/
abbrev YV : Type := Int × Int × (Int → Int)
abbrev CS : Type := (Int × Int × Int) × (Nat → YV) × (Nat → YV)
def AtY (I : Mem) (a a1 : Nat) (y : YV) : Prop := I a 0 = y.1 ∧ I a 1 = y.2.1 ∧ ∀ p : Int, 1 ≤ p → p ≤ 80 → I a1 p = y.2.2 p
def AtP (I : Mem) (a a1 : Nat) (y : YV) : Prop := I a 0 = y.1 ∧ I a 1 = y.2.1 ∧ ∀ p : Int, 0 ≤ p → p < 80 → I a1 p = y.2.2 p
def AtS (I : Mem) (k : Nat) (π : Nat → Nat) (σ : CS) : Prop := I (stB k) 0 = σ.1.1 ∧ I (stB k) 1 = σ.1.2.1 ∧ I (stB k) 2 = σ.1.2.2 ∧ (∀ i : Nat, i < 4 → AtY I (stB k + (3 + 2 * i)) (stB k + (4 + 2 * i)) (σ.2.1 i)) ∧ ∀ i : Nat, i < 8 → AtP I (stB k + (11 + 2 * π i)) (stB k + (12 + 2 * π i)) (σ.2.2 i)
/-- the paragraphs' objects stand in some order -/
def StrS (R : RMem) (k : Nat) (π : Nat → Nat) : Prop := (∀ i : Nat, i < 8 → π i < 8 ∧ R (stB k + 2) i = some (stB k + (11 + 2 * π i))) ∧ ∀ i j : Nat, i < 8 → j < 8 → π i = π j → i = j
theorem AtY.kept {I I1 : Mem} {a a1 : Nat} {y : YV} (h : AtY I a a1 y) (h1 : ∀ j, I1 a j = I a j) (h2 : ∀ j, I1 a1 j = I a1 j) : AtY I1 a a1 y := ⟨(h1 0).trans h.1, (h1 1).trans h.2.1, fun p q1 q2 => (h2 p).trans (h.2.2 p q1 q2)⟩
theorem AtP.kept {I I1 : Mem} {a a1 : Nat} {y : YV} (h : AtP I a a1 y) (h1 : ∀ j, I1 a j = I a j) (h2 : ∀ j, I1 a1 j = I a1 j) : AtP I1 a a1 y := ⟨(h1 0).trans h.1, (h1 1).trans h.2.1, fun p q1 q2 => (h2 p).trans (h.2.2 p q1 q2)⟩
theorem AtS.kept {I I1 : Mem} {k : Nat} {π : Nat → Nat} {σ : CS} (hπ : ∀ i, i < 8 → π i < 8) (h : AtS I k π σ) (h1 : ∀ (x : Nat) (j : Int), stB k ≤ x → x < stB k + 27 → I1 x j = I x j) : AtS I1 k π σ := by
  refine ⟨(h1 _ _ (by omega) (by omega)).trans h.1, (h1 _ _ (by omega) (by omega)).trans h.2.1, (h1 _ _ (by omega) (by omega)).trans h.2.2.1, fun i hi => (h.2.2.2.1 i hi).kept (fun j => h1 _ j (by omega) (by omega)) (fun j => h1 _ j (by omega) (by omega)), fun i hi => ?_⟩
  have := hπ i hi
  exact (h.2.2.2.2 i hi).kept (fun j => h1 _ j (by omega) (by omega)) (fun j => h1 _ j (by omega) (by omega))
theorem str_at {R : RMem} {k : Nat} {π : Nat → Nat} (h : StrS R k π) {i : Int} (hi : 0 ≤ i ∧ i < 8) : R (stB k + 2) i = some (stB k + (11 + 2 * π i.toNat)) ∧ π i.toNat < 8 := by
  obtain ⟨j, rfl⟩ : ∃ j : Nat, i = j := ⟨i.toNat, by omega⟩
  rw [Int.toNat_natCast]
  exact ⟨(h.1 j (by omega)).2, (h.1 j (by omega)).1⟩
set_option maxHeartbeats 4000000 in
set_option maxRecDepth 100000 in
theorem c_takeAllOf (I : Mem) (R : RMem) (hRO : RefOk R) {k q : Nat} (hk : k < 7) (hq : q < 7) (hkq : k ≠ q) {π ρ : Nat → Nat} (hπ : StrS R k π) (hρ : StrS R q ρ) {σ : CS} (hσ : AtS I q ρ σ) : CC 2 0 0 yX3_takeAllOf cX3_takeAllOf 3 none [.inr (some (stB k)), .inr (some (stB q))] (290, ShF, I, R) (PW R (fun I1 => AtS I1 k π σ ∧ ∀ (x : Nat) (j : Int), x < stB k ∨ stB k + 27 ≤ x → I1 x j = I x j)) := by
  have hap := stB_apart hkq
  have hl2 : ∀ (n : Nat) (i : Int) (I1 : Mem), 8 < i + n → 0 ≤ i → i ≤ 8 → I1 (stB k) 0 = σ.1.1 → I1 (stB k) 1 = σ.1.2.1 → I1 (stB k) 2 = σ.1.2.2 → (∀ (x : Nat) (j : Int), x < stB k ∨ stB k + 27 ≤ x → I1 x j = I x j) → (∀ i : Nat, i < 4 → AtY I1 (stB k + (3 + 2 * i)) (stB k + (4 + 2 * i)) (σ.2.1 i)) → (∀ z : Nat, z < i.toNat → AtP I1 (stB k + (11 + 2 * π z)) (stB k + (12 + 2 * π z)) (σ.2.2 z)) → WW cX3_takeAllOf RX3 3 none false 2 0 0 (PW R (fun I1 => AtS I1 k π σ ∧ ∀ (x : Nat) (j : Int), x < stB k ∨ stB k + 27 ≤ x → I1 x j = I x j)) 0 0 90 [some (.inr (some (stB k))), some (.inr (some (stB q))), some (.inl (i))] [] (290, ShF, I1, R) := by
    intro n
    induction n with
    | zero => intros; exfalso; omega
    | succ n ih =>
      intro i I1 g1 g2 g3 g4 g5 g6 g7 g8 g9
      refine r_iload_n dX3_takeAllOf_90 rfl ?_
      refine r_bipush dX3_takeAllOf_91 (by decide) ?_
      refine r_icmpge (tgt := 117) dX3_takeAllOf_93 (by decide) (by omega) (by omega) (fun h93 => ?_) (fun h93 => ?_)
      · refine q_vretW dX3_takeAllOf_117 rfl ?_
        exact ⟨⟨g4, g5, g6, g8, fun z hz => g9 z (by omega)⟩, g7⟩
      · refine r_aload_n dX3_takeAllOf_96 rfl ?_
        refine q_getR fl_X3_26 dX3_takeAllOf_97 (sf_S0 hk) (ro_st hRO hk).2.1 ?_
        refine r_iload_n dX3_takeAllOf_100 rfl ?_
        refine q_aald (t := 4) (by decide) dX3_takeAllOf_101 (sf_S2 hk) (by omega) (str_at hπ (i := i) (by omega)).1 ?_
        refine r_aload_n dX3_takeAllOf_102 rfl ?_
        refine q_getR fl_X3_26 dX3_takeAllOf_103 (sf_S0 hq) (ro_st hRO hq).2.1 ?_
        refine r_iload_n dX3_takeAllOf_106 rfl ?_
        refine q_aald (t := 4) (by decide) dX3_takeAllOf_107 (sf_S2 hq) (by omega) (str_at hρ (i := i) (by omega)).1 ?_
        refine q_callVW lk_X3_45 dX3_takeAllOf_108 (c_takeFrom _ R (ro_par hRO hk (str_at hπ (i := i) (by omega)).2) (ro_par hRO hq (str_at hρ (i := i) (by omega)).2) (by have := stB_apart hkq; have := (str_at hπ (i := i) (by omega)).2; have := (str_at hρ (i := i) (by omega)).2; omega)) (by decide) (ro_par hRO hk (str_at hπ (i := i) (by omega)).2).1 rfl rfl (Nat.le_of_ble_eq_true rfl) (by decide) (fun I2 hI2 => ?_)
        refine r_iinc dX3_takeAllOf_111 rfl (by decide) ?_
        dsimp only [lset]
        refine r_goto (tgt := 90) dX3_takeAllOf_114 (by decide) ?_
        have hp1 := (str_at hπ (i := i) (by omega)).2
        have hp2 := (str_at hρ (i := i) (by omega)).2
        obtain ⟨e1, e2, e3, e4⟩ := hI2
        have hsrc := hσ.2.2.2.2 i.toNat (by omega)
        refine ih _ _ (by omega) (by omega) (by omega) (by rw [e4 _ _ (by omega) (by omega)]; exact g4) (by rw [e4 _ _ (by omega) (by omega)]; exact g5) (by rw [e4 _ _ (by omega) (by omega)]; exact g6) (fun x j hx => by rw [e4 _ _ (by omega) (by omega)]; exact g7 x j hx) (fun z hz => (g8 z hz).kept (fun j => e4 _ _ (by omega) (by omega)) (fun j => e4 _ _ (by omega) (by omega))) (fun z hz => ?_)
        by_cases hzi : z = i.toNat
        · subst hzi
          refine ⟨?_, ?_, fun p h1 h2 => ?_⟩
          · rw [e1, g7 _ _ (by omega)]; exact hsrc.1
          · rw [e2, g7 _ _ (by omega)]; exact hsrc.2.1
          · rw [e3 p h1 h2, g7 _ _ (by omega)]; exact hsrc.2.2 p h1 h2
        · have hne : π z ≠ π i.toNat := fun e => hzi (hπ.2 z i.toNat (by omega) (by omega) e)
          exact (g9 z (by omega)).kept (fun j => e4 _ _ (by omega) (by omega)) (fun j => e4 _ _ (by omega) (by omega))
  have hl1 : ∀ (n : Nat) (i : Int) (I1 : Mem), 8 < i + n → 0 ≤ i → i ≤ 4 → I1 (stB k) 0 = σ.1.1 → I1 (stB k) 1 = σ.1.2.1 → I1 (stB k) 2 = σ.1.2.2 → (∀ (x : Nat) (j : Int), x < stB k ∨ stB k + 27 ≤ x → I1 x j = I x j) → (∀ z : Nat, z < i.toNat → AtY I1 (stB k + (3 + 2 * z)) (stB k + (4 + 2 * z)) (σ.2.1 z)) → WW cX3_takeAllOf RX3 3 none false 2 0 0 (PW R (fun I1 => AtS I1 k π σ ∧ ∀ (x : Nat) (j : Int), x < stB k ∨ stB k + 27 ≤ x → I1 x j = I x j)) 0 0 26 [some (.inr (some (stB k))), some (.inr (some (stB q))), some (.inl (i))] [] (290, ShF, I1, R) := by
    intro n
    induction n with
    | zero => intros; exfalso; omega
    | succ n ih =>
      intro i I1 g1 g2 g3 g4 g5 g6 g7 g8
      refine r_iload_n dX3_takeAllOf_26 rfl ?_
      refine r_iconst dX3_takeAllOf_27 ?_
      refine r_icmpge (tgt := 88) dX3_takeAllOf_28 (by decide) (by omega) (by omega) (fun h28 => ?_) (fun h28 => ?_)
      · refine r_iconst dX3_takeAllOf_88 ?_
        refine r_istore_n dX3_takeAllOf_89 (by decide) ?_
        dsimp only [lset]
        exact hl2 9 _ _ (by omega) (by omega) (by omega) g4 g5 g6 g7 (fun z hz => g8 z (by omega)) (fun z hz => by omega)
      · refine r_aload_n dX3_takeAllOf_31 rfl ?_
        refine q_getR fl_X3_20 dX3_takeAllOf_32 (sf_S0 hk) (ro_st hRO hk).1 ?_
        refine r_iload_n dX3_takeAllOf_35 rfl ?_
        refine q_aald (t := 3) (by decide) dX3_takeAllOf_36 (sf_S1 hk) (by omega) (ro_sty hRO hk (i := i) (by omega)).1 ?_
        refine r_aload_n dX3_takeAllOf_37 rfl ?_
        refine q_getR fl_X3_20 dX3_takeAllOf_38 (sf_S0 hq) (ro_st hRO hq).1 ?_
        refine r_iload_n dX3_takeAllOf_41 rfl ?_
        refine q_aald (t := 3) (by decide) dX3_takeAllOf_42 (sf_S1 hq) (by omega) (ro_sty hRO hq (i := i) (by omega)).1 ?_
        refine q_getI fl_X3_35 dX3_takeAllOf_43 (ro_sty hRO hq (i := i) (by omega)).2.1 ?_
        refine q_putI fl_X3_35 dX3_takeAllOf_46 (ro_sty hRO hk (i := i) (by omega)).2.1 ?_
        refine r_aload_n dX3_takeAllOf_49 rfl ?_
        refine q_getR fl_X3_20 dX3_takeAllOf_50 (sf_S0 hk) (ro_st hRO hk).1 ?_
        refine r_iload_n dX3_takeAllOf_53 rfl ?_
        refine q_aald (t := 3) (by decide) dX3_takeAllOf_54 (sf_S1 hk) (by omega) (ro_sty hRO hk (i := i) (by omega)).1 ?_
        refine r_aload_n dX3_takeAllOf_55 rfl ?_
        refine q_getR fl_X3_20 dX3_takeAllOf_56 (sf_S0 hq) (ro_st hRO hq).1 ?_
        refine r_iload_n dX3_takeAllOf_59 rfl ?_
        refine q_aald (t := 3) (by decide) dX3_takeAllOf_60 (sf_S1 hq) (by omega) (ro_sty hRO hq (i := i) (by omega)).1 ?_
        refine q_getI fl_X3_38 dX3_takeAllOf_61 (ro_sty hRO hq (i := i) (by omega)).2.1 ?_
        refine q_putI fl_X3_38 dX3_takeAllOf_64 (ro_sty hRO hk (i := i) (by omega)).2.1 ?_
        refine r_aload_n dX3_takeAllOf_67 rfl ?_
        refine q_getR fl_X3_20 dX3_takeAllOf_68 (sf_S0 hk) (ro_st hRO hk).1 ?_
        refine r_iload_n dX3_takeAllOf_71 rfl ?_
        refine q_aald (t := 3) (by decide) dX3_takeAllOf_72 (sf_S1 hk) (by omega) (ro_sty hRO hk (i := i) (by omega)).1 ?_
        refine r_aload_n dX3_takeAllOf_73 rfl ?_
        refine q_getR fl_X3_20 dX3_takeAllOf_74 (sf_S0 hq) (ro_st hRO hq).1 ?_
        refine r_iload_n dX3_takeAllOf_77 rfl ?_
        refine q_aald (t := 3) (by decide) dX3_takeAllOf_78 (sf_S1 hq) (by omega) (ro_sty hRO hq (i := i) (by omega)).1 ?_
        refine q_callVW lk_X3_41 dX3_takeAllOf_79 (c_takeStopsOf _ R (ro_sty hRO hk (i := i) (by omega)).2 (ro_sty hRO hq (i := i) (by omega)).2) (by decide) (ro_sty hRO hk (i := i) (by omega)).2.1 rfl rfl (Nat.le_of_ble_eq_true rfl) (by decide) (fun I2 hI2 => ?_)
        refine r_iinc dX3_takeAllOf_82 rfl (by decide) ?_
        dsimp only [lset]
        refine r_goto (tgt := 26) dX3_takeAllOf_85 (by decide) ?_
        have hsrc := hσ.2.2.2.1 i.toNat (by omega)
        have hI3 : ∀ (x : Nat) (j : Int), x ≠ stB k + (3 + 2 * i.toNat) → x ≠ stB k + (4 + 2 * i.toNat) → I2 x j = I1 x j := fun x j h1 h2 => by
          rw [hI2 x j, if_neg (by omega), u2_n (Or.inl h1), u2_n (Or.inl h1)]
        refine ih _ _ (by omega) (by omega) (by omega) (by rw [hI3 _ _ (by omega) (by omega)]; exact g4) (by rw [hI3 _ _ (by omega) (by omega)]; exact g5) (by rw [hI3 _ _ (by omega) (by omega)]; exact g6) (fun x j hx => by rw [hI3 _ _ (by omega) (by omega)]; exact g7 x j hx) (fun z hz => ?_)
        by_cases hzi : z = i.toNat
        · subst hzi
          refine ⟨?_, ?_, fun p h1 h2 => ?_⟩
          · rw [hI2, if_neg (by omega), u2_n (Or.inr (by decide)), u2_s, g7 _ _ (by omega)]; exact hsrc.1
          · rw [hI2, if_neg (by omega), u2_s, u2_n (Or.inl (by omega)), g7 _ _ (by omega)]; exact hsrc.2.1
          · rw [hI2, if_pos ⟨rfl, h1, h2⟩, u2_n (Or.inl (by omega)), u2_n (Or.inl (by omega)), g7 _ _ (by omega)]; exact hsrc.2.2 p h1 h2
        · exact (g8 z (by omega)).kept (fun j => hI3 _ _ (by omega) (by omega)) (fun j => hI3 _ _ (by omega) (by omega))
  refine CC_of (own := RX3) (ini := false) (by decide +kernel) rfl (fun h => absurd h (by decide)) (Nat.le_of_ble_eq_true rfl) ?_
  show WW cX3_takeAllOf RX3 3 none false 2 0 0 (PW R (fun I1 => AtS I1 k π σ ∧ ∀ (x : Nat) (j : Int), x < stB k ∨ stB k + 27 ≤ x → I1 x j = I x j)) 0 0 0 [some (.inr (some (stB k))), some (.inr (some (stB q))), none] [] (290, ShF, I, R)
  refine r_aload_n dX3_takeAllOf_0 rfl ?_
  refine r_aload_n dX3_takeAllOf_1 rfl ?_
  refine q_getI fl_X3_9 dX3_takeAllOf_2 (sf_S0 hq) ?_
  refine q_putI fl_X3_9 dX3_takeAllOf_5 (sf_S0 hk) ?_
  refine r_aload_n dX3_takeAllOf_8 rfl ?_
  refine r_aload_n dX3_takeAllOf_9 rfl ?_
  refine q_getI fl_X3_15 dX3_takeAllOf_10 (sf_S0 hq) ?_
  refine q_putI fl_X3_15 dX3_takeAllOf_13 (sf_S0 hk) ?_
  refine r_aload_n dX3_takeAllOf_16 rfl ?_
  refine r_aload_n dX3_takeAllOf_17 rfl ?_
  refine q_getI fl_X3_32 dX3_takeAllOf_18 (sf_S0 hq) ?_
  refine q_putI fl_X3_32 dX3_takeAllOf_21 (sf_S0 hk) ?_
  refine r_iconst dX3_takeAllOf_24 ?_
  refine r_istore_n dX3_takeAllOf_25 (by decide) ?_
  dsimp only [lset]
  refine hl1 9 _ _ (by omega) (by omega) (by omega) ?_ ?_ ?_ (fun x j hx => ?_) (fun z hz => by omega)
  · rw [u2_n (Or.inr (by decide)), u2_n (Or.inr (by decide)), u2_s]; exact hσ.1
  · rw [u2_n (Or.inr (by decide)), u2_s, u2_n (Or.inl (by omega))]; exact hσ.2.1
  · rw [u2_s, u2_n (Or.inl (by omega)), u2_n (Or.inl (by omega))]; exact hσ.2.2.1
  · rw [u2_n (Or.inl (by omega)), u2_n (Or.inl (by omega)), u2_n (Or.inl (by omega))]
