/-! stops that are read from a text: what is read, and the class's reader -/
theorem u2_self {α : Type} (f : Nat → Int → α) (a : Nat) (j : Int) : u2 f a j (f a j) = f := by
  funext x y
  rw [u2_at]
  by_cases h : x = a ∧ y = j
  · rw [if_pos h, h.1, h.2]
  · rw [if_neg h]
theorem u2_u2 {α : Type} (f : Nat → Int → α) (a : Nat) (j : Int) (z v : α) : u2 (u2 f a j z) a j v = u2 f a j v := by
  funext x y
  rw [u2_at, u2_at, u2_at]
  by_cases h : x = a ∧ y = j
  · rw [if_pos h, if_pos h]
  · rw [if_neg h, if_neg h, if_neg h]
def nx (tx : Int → Int) (tl at_ : Int) : Int := if 0 ≤ at_ ∧ at_ < tl then tx at_ else -1
def skf (tx : Int → Int) (tl : Int) : Nat → Int → Int
  | 0, at_ => at_
  | n + 1, at_ => if at_ < tl ∧ tx at_ = 32 then skf tx tl n (at_ + 1) else at_
def sk (tx : Int → Int) (tl at_ : Int) : Int := skf tx tl 101 at_
def kdO (c : Int) : Int := if c = 108 then 0 else if c = 114 then 1 else if c = 109 then 2 else if c = 112 then 3 else if c = 98 then 4 else -1
def ldO (c : Int) : Int := if c = 46 then 1 else if c = 45 then 2 else if c = 95 then 3 else 0
def ldC (l : Int) : Int := if l = 1 then 46 else if l = 2 then 45 else if l = 3 then 95 else 32
def iD (tx : Int → Int) (tl s : Int) : Prop := 48 ≤ nx tx tl (s + 1) ∧ nx tx tl (s + 1) ≤ 57
def iP (tx : Int → Int) (tl s : Int) : Int := if 48 ≤ nx tx tl (s + 1) ∧ nx tx tl (s + 1) ≤ 57 then 10 * (nx tx tl s - 48) + (nx tx tl (s + 1) - 48) else nx tx tl s - 48
def iE (tx : Int → Int) (tl s : Int) : Int := if 48 ≤ nx tx tl (s + 1) ∧ nx tx tl (s + 1) ≤ 57 then s + 2 else s + 1
def iL (tx : Int → Int) (tl k q : Int) : Int := if k = 4 then 0 else ldO (nx tx tl q)
def iR (tx : Int → Int) (tl k q : Int) : Int := if iL tx tl k q = 0 then q else sk tx tl (q + 1)
/-- one item from a place: is it one, where it ends or fails, its position, its number -/
def itemR (tx : Int → Int) (tl : Int) (f : Int → Int) (at_ : Int) : Bool × Int × Int × Int :=
  if kdO (nx tx tl at_) = -1 then (false, at_, 0, 0)
  else if ¬ (49 ≤ nx tx tl (sk tx tl (at_ + 1)) ∧ nx tx tl (sk tx tl (at_ + 1)) ≤ 57) then (false, sk tx tl (at_ + 1), 0, 0)
  else if 80 < iP tx tl (sk tx tl (at_ + 1)) ∨ f (iP tx tl (sk tx tl (at_ + 1))) ≠ 0 then (false, sk tx tl (at_ + 1), 0, 0)
  else if nx tx tl (iR tx tl (kdO (nx tx tl at_)) (sk tx tl (iE tx tl (sk tx tl (at_ + 1))))) ≠ 59 then (false, iR tx tl (kdO (nx tx tl at_)) (sk tx tl (iE tx tl (sk tx tl (at_ + 1)))), 0, 0)
  else (true, iR tx tl (kdO (nx tx tl at_)) (sk tx tl (iE tx tl (sk tx tl (at_ + 1)))) + 1, iP tx tl (sk tx tl (at_ + 1)), 1 + kdO (nx tx tl at_) * 4 + iL tx tl (kdO (nx tx tl at_)) (sk tx tl (iE tx tl (sk tx tl (at_ + 1)))))
def ldR (tx : Int → Int) (tl : Int) : Nat → Int → (Int → Int) → Int × (Int → Int)
  | 0, at_, f => if at_ < tl then (at_, f) else (-1, f)
  | n + 1, at_, f => if at_ < tl then (if (itemR tx tl f at_).1 = true then ldR tx tl n (sk tx tl (itemR tx tl f at_).2.1) (upF f (itemR tx tl f at_).2.2.1 (itemR tx tl f at_).2.2.2) else ((itemR tx tl f at_).2.1, f)) else (-1, f)
def aLoadStops (a : AS) (s : Int) : Int × AS :=
  if 0 ≤ s ∧ s ≤ 3 then
    (if (ldR a.2.2.2.2 a.2.2.2.1 8 (sk a.2.2.2.2 a.2.2.2.1 0) (fun _ => 0)).1 ≠ -1 then (-1000 - (ldR a.2.2.2.2 a.2.2.2.1 8 (sk a.2.2.2.2 a.2.2.2.1 0) (fun _ => 0)).1, a)
     else (cntF (ldR a.2.2.2.2 a.2.2.2.1 8 (sk a.2.2.2.2 a.2.2.2.1 0) (fun _ => 0)).2 80, clr (wS (psh a) (setF a.1 s.toNat (ldR a.2.2.2.2 a.2.2.2.1 8 (sk a.2.2.2.2 a.2.2.2.1 0) (fun _ => 0)).2)))) else (-1, a)
theorem skf_bd (tx : Int → Int) (tl : Int) : ∀ (n : Nat) (x : Int), x ≤ skf tx tl n x ∧ (x ≤ tl → skf tx tl n x ≤ tl)
  | 0, x => ⟨Int.le_refl _, fun h => h⟩
  | n + 1, x => by
    have h := skf_bd tx tl n (x + 1)
    show x ≤ (if x < tl ∧ tx x = 32 then skf tx tl n (x + 1) else x) ∧ (x ≤ tl → (if x < tl ∧ tx x = 32 then skf tx tl n (x + 1) else x) ≤ tl)
    by_cases hc : x < tl ∧ tx x = 32
    · rw [if_pos hc]
      exact ⟨by omega, fun _ => h.2 (by omega)⟩
    · rw [if_neg hc]
      exact ⟨Int.le_refl _, fun h => h⟩
theorem skf_fuel (tx : Int → Int) (tl : Int) : ∀ (n m : Nat) (x : Int), tl ≤ x + n → tl ≤ x + m → skf tx tl n x = skf tx tl m x
  | 0, 0, x, _, _ => rfl
  | 0, m + 1, x, h1, h2 => by
    show x = if x < tl ∧ tx x = 32 then skf tx tl m (x + 1) else x
    rw [if_neg (by omega)]
  | n + 1, 0, x, h1, h2 => by
    show (if x < tl ∧ tx x = 32 then skf tx tl n (x + 1) else x) = x
    rw [if_neg (by omega)]
  | n + 1, m + 1, x, h1, h2 => by
    show (if x < tl ∧ tx x = 32 then skf tx tl n (x + 1) else x) = if x < tl ∧ tx x = 32 then skf tx tl m (x + 1) else x
    rw [skf_fuel tx tl n m (x + 1) (by omega) (by omega)]
theorem sk_bd (tx : Int → Int) (tl x : Int) : x ≤ sk tx tl x ∧ (x ≤ tl → sk tx tl x ≤ tl) := skf_bd tx tl 101 x
theorem sk_yes {tx : Int → Int} {tl x : Int} (h : x < tl ∧ tx x = 32) (h0 : 0 ≤ x ∧ tl ≤ 100) : sk tx tl x = sk tx tl (x + 1) := by
  show (if x < tl ∧ tx x = 32 then skf tx tl 100 (x + 1) else x) = skf tx tl 101 (x + 1)
  rw [if_pos h]
  exact skf_fuel tx tl 100 101 (x + 1) (by omega) (by omega)
theorem sk_no {tx : Int → Int} {tl x : Int} (h : ¬ (x < tl ∧ tx x = 32)) : sk tx tl x = x := if_neg h
theorem sk_at {tx : Int → Int} {tl : Int} (ht : tl ≤ 100) : ∀ (n : Nat) (x : Int), 0 ≤ x → tl ≤ x + n → ¬ (sk tx tl x < tl ∧ tx (sk tx tl x) = 32)
  | 0, x, h0, h => by
    rw [sk_no (by omega)]
    omega
  | n + 1, x, h0, h => by
    by_cases hc : x < tl ∧ tx x = 32
    · rw [sk_yes hc ⟨h0, ht⟩]
      exact sk_at ht n (x + 1) (by omega) (by omega)
    · rw [sk_no hc]
      exact hc
theorem nx_bd {tx : Int → Int} {tl : Int} (htx : ∀ j : Int, 0 ≤ j → j < tl → 0 ≤ tx j ∧ tx j ≤ 255) (x : Int) : -1 ≤ nx tx tl x ∧ nx tx tl x ≤ 255 ∧ (nx tx tl x ≠ -1 → 0 ≤ x ∧ x < tl ∧ nx tx tl x = tx x) := by
  unfold nx
  by_cases h : 0 ≤ x ∧ x < tl
  · rw [if_pos h]
    have := htx x h.1 h.2
    exact ⟨by omega, by omega, fun _ => ⟨h.1, h.2, rfl⟩⟩
  · rw [if_neg h]
    exact ⟨by omega, by omega, fun q => absurd rfl q⟩
theorem kdO_bd (c : Int) : -1 ≤ kdO c ∧ kdO c ≤ 4 ∧ (kdO c ≠ -1 → 98 ≤ c) := by
  unfold kdO
  split
  · omega
  · split
    · omega
    · split
      · omega
      · split
        · omega
        · split <;> omega
theorem ldO_bd (c : Int) : 0 ≤ ldO c ∧ ldO c ≤ 3 ∧ (ldO c ≠ 0 → 0 ≤ c) := by
  unfold ldO
  split
  · omega
  · split
    · omega
    · split <;> omega
/-- the reader stands over a text -/
def RdAt (I : Mem) (R : RMem) (tx : Int → Int) (tl : Int) : Prop := RefOk R ∧ R 30 1 = some 29 ∧ I 30 2 = tl ∧ (0 ≤ tl ∧ tl ≤ 100) ∧ ∀ j : Int, 0 ≤ j → j < tl → I 29 j = tx j ∧ 0 ≤ tx j ∧ tx j ≤ 255
theorem RdAt.at {I : Mem} {R : RMem} {tx : Int → Int} {tl : Int} (h : RdAt I R tx tl) (v : Int) : RdAt (u2 I 30 3 v) R tx tl := ⟨h.1, h.2.1, (u2_n (Or.inr (by decide))).trans h.2.2.1, h.2.2.2.1, fun j h1 h2 => ⟨(u2_n (Or.inl (by decide))).trans (h.2.2.2.2 j h1 h2).1, (h.2.2.2.2 j h1 h2).2⟩⟩
set_option maxHeartbeats 4000000 in
set_option maxRecDepth 100000 in
theorem c_next (I : Mem) (R : RMem) (tx : Int → Int) (tl : Int) (hr : RdAt I R tx tl) (hat : 0 ≤ I 30 3 ∧ I 30 3 ≤ tl) : CC 1 0 0 yX4_next cX4_next 1 (some .int) [.inr (some 30)] (298, ShF, I, R) (PF (nx tx tl (I 30 3)) I R) := by
  have hRO := hr.1
  have hlen := hr.2.2.1
  have htl := hr.2.2.2.1
  have htx := hr.2.2.2.2
  have hnb := nx_bd (tx := tx) (tl := tl) (fun j h1 h2 => (htx j h1 h2).2)
  refine CC_of (own := RX4) (ini := false) (by decide +kernel) rfl (fun h => absurd h (by decide)) (Nat.le_of_ble_eq_true rfl) ?_
  show WW cX4_next RX4 1 (some .int) false 1 0 0 (PF (nx tx tl (I 30 3)) I R) 0 0 0 [some (.inr (some 30))] [] (298, ShF, I, R)
  refine r_aload_n dX4_next_0 rfl ?_
  refine q_getI fl_X4_32 dX4_next_1 sf_30 ?_
  refine r_iflt (tgt := 42) dX4_next_4 (by decide) (by omega) (fun h4 => ?_) (fun h4 => ?_)
  · refine r_iconst dX4_next_42 ?_
    refine q_iretF dX4_next_43 rfl ?_
    unfold nx
    first | (rw [if_pos (by omega)]; exact hx) | (rw [if_neg (by omega)])
  · refine r_aload_n dX4_next_7 rfl ?_
    refine q_getI fl_X4_32 dX4_next_8 sf_30 ?_
    refine r_aload_n dX4_next_11 rfl ?_
    refine q_getI fl_X4_28 dX4_next_12 sf_30 ?_
    rw [hlen]
    refine r_icmpge (tgt := 42) dX4_next_15 (by decide) (by omega) (by omega) (fun h15 => ?_) (fun h15 => ?_)
    · refine r_iconst dX4_next_42 ?_
      refine q_iretF dX4_next_43 rfl ?_
      unfold nx
      first | (rw [if_pos (by omega)]; exact hx) | (rw [if_neg (by omega)])
    · refine r_aload_n dX4_next_18 rfl ?_
      refine q_getI fl_X4_32 dX4_next_19 sf_30 ?_
      refine r_aload_n dX4_next_22 rfl ?_
      refine q_getR fl_X4_18 dX4_next_23 sf_30 hr.2.1 ?_
      refine q_alen (t := 0) (by decide) dX4_next_26 sf_29 ?_
      refine r_icmpge (tgt := 42) dX4_next_27 (by decide) (by omega) (by omega) (fun h27 => ?_) (fun h27 => ?_)
      · refine r_iconst dX4_next_42 ?_
        refine q_iretF dX4_next_43 rfl ?_
        unfold nx
        first | (rw [if_pos (by omega)]; exact hx) | (rw [if_neg (by omega)])
      · refine r_aload_n dX4_next_30 rfl ?_
        refine q_getR fl_X4_18 dX4_next_31 sf_30 hr.2.1 ?_
        refine r_aload_n dX4_next_34 rfl ?_
        refine q_getI fl_X4_32 dX4_next_35 sf_30 ?_
        refine q_iald dX4_next_38 sf_29 (by omega) ?_
        have hx := (htx (I 30 3) (by omega) (by omega)).1
        refine r_goto (tgt := 43) dX4_next_39 (by decide) ?_
        refine q_iretF dX4_next_43 rfl ?_
        unfold nx
        first | (rw [if_pos (by omega)]; exact hx) | (rw [if_neg (by omega)])
set_option maxHeartbeats 4000000 in
set_option maxRecDepth 100000 in
theorem c_leaderCharacter (I : Mem) (R : RMem) (l : Int) (hl : 0 ≤ l ∧ l ≤ 4) : CC 1 0 0 yX7_leaderCharacter cX7_leaderCharacter 1 (some .int) [.inl (l)] (298, ShF, I, R) (PF (ldC l) I R) := by
  refine CC_of (own := RX7) (ini := false) (by decide +kernel) rfl (fun h => absurd h (by decide)) (Nat.le_of_ble_eq_true rfl) ?_
  show WW cX7_leaderCharacter RX7 1 (some .int) false 1 0 0 (PF (ldC l) I R) 0 0 0 [some (.inl (l))] [] (298, ShF, I, R)
  refine r_iload_n dX7_leaderCharacter_0 rfl ?_
  rcases (show l = 1 ∨ l = 2 ∨ l = 3 ∨ (l < 1 ∨ 3 < l) by omega) with rfl | rfl | rfl | hww
  · refine r_tsIn (off := 27) (tgt := 28) dX7_leaderCharacter_1 (by decide) (by decide) rfl (by decide) ?_
    refine r_bipush dX7_leaderCharacter_28 (by decide) ?_
    refine q_iretF dX7_leaderCharacter_30 rfl ?_
    rfl
  · refine r_tsIn (off := 30) (tgt := 31) dX7_leaderCharacter_1 (by decide) (by decide) rfl (by decide) ?_
    refine r_bipush dX7_leaderCharacter_31 (by decide) ?_
    refine q_iretF dX7_leaderCharacter_33 rfl ?_
    rfl
  · refine r_tsIn (off := 33) (tgt := 34) dX7_leaderCharacter_1 (by decide) (by decide) rfl (by decide) ?_
    refine r_bipush dX7_leaderCharacter_34 (by decide) ?_
    refine q_iretF dX7_leaderCharacter_36 rfl ?_
    rfl
  · refine r_tsOut (tgt := 37) dX7_leaderCharacter_1 (by omega) hww (by decide) ?_
    refine r_bipush dX7_leaderCharacter_37 (by decide) ?_
    refine q_iretF dX7_leaderCharacter_39 rfl ?_
    unfold ldC
    rw [if_neg (by omega), if_neg (by omega), if_neg (by omega)]
set_option maxHeartbeats 4000000 in
set_option maxRecDepth 100000 in
theorem c_leaderOf (I : Mem) (R : RMem) (c : Int) (hc : -2147483648 ≤ c ∧ c ≤ 2147483647) : CC 2 0 0 yX4_leaderOf cX4_leaderOf 2 (some .int) [.inl (c)] (298, ShF, I, R) (PF (ldO c) I R) := by
  have hloop : ∀ (n : Nat) (l : Int), 4 < l + n → (1 ≤ l ∧ l ≤ 4) → (2 ≤ l → c ≠ 46) → (3 ≤ l → c ≠ 45) → (4 ≤ l → c ≠ 95) → WW cX4_leaderOf RX4 2 (some .int) false 2 0 0 (PF (ldO c) I R) 0 0 2 [some (.inl (c)), some (.inl (l))] [] (298, ShF, I, R) := by
    intro n
    induction n with
    | zero => intros; exfalso; omega
    | succ n ih =>
      intro l g1 g2 g3 g4 g5
      refine r_iload_n dX4_leaderOf_2 rfl ?_
      refine r_iconst dX4_leaderOf_3 ?_
      refine r_icmpge (tgt := 23) dX4_leaderOf_4 (by decide) (by omega) (by omega) (fun h4 => ?_) (fun h4 => ?_)
      · refine r_iconst dX4_leaderOf_23 ?_
        refine q_iretF dX4_leaderOf_24 rfl ?_
        unfold ldO
        rw [if_neg (g3 (by omega)), if_neg (g4 (by omega)), if_neg (g5 (by omega))]
      · refine r_iload_n dX4_leaderOf_7 rfl ?_
        refine q_callSF lk_X4_70 dX4_leaderOf_8 (c_leaderCharacter I R l (by omega)) (by decide) rfl rfl (Nat.le_of_ble_eq_true rfl) (by decide) ?_
        have hlc : (l = 1 ∧ ldC l = 46) ∨ (l = 2 ∧ ldC l = 45) ∨ (l = 3 ∧ ldC l = 95) := by
          rcases (show l = 1 ∨ l = 2 ∨ l = 3 by omega) with rfl | rfl | rfl
          · exact Or.inl ⟨rfl, rfl⟩
          · exact Or.inr (Or.inl ⟨rfl, rfl⟩)
          · exact Or.inr (Or.inr ⟨rfl, rfl⟩)
        refine r_iload_n dX4_leaderOf_11 rfl ?_
        refine r_icmpne (tgt := 17) dX4_leaderOf_12 (by decide) (by omega) (by omega) (fun h12 => ?_) (fun h12 => ?_)
        · refine r_iinc dX4_leaderOf_17 rfl (by decide) ?_
          dsimp only [lset]
          refine r_goto (tgt := 2) dX4_leaderOf_20 (by decide) ?_
          exact ih _ (by omega) (by omega) (fun _ => by omega) (fun _ => by omega) (fun _ => by omega)
        · refine r_iload_n dX4_leaderOf_15 rfl ?_
          refine q_iretF dX4_leaderOf_16 rfl ?_
          unfold ldO
          rcases hlc with h | h | h
          · rw [if_pos (by omega), h.1]
          · rw [if_neg (by omega), if_pos (by omega), h.1]
          · rw [if_neg (by omega), if_neg (by omega), if_pos (by omega), h.1]
  refine CC_of (own := RX4) (ini := false) (by decide +kernel) rfl (fun h => absurd h (by decide)) (Nat.le_of_ble_eq_true rfl) ?_
  show WW cX4_leaderOf RX4 2 (some .int) false 2 0 0 (PF (ldO c) I R) 0 0 0 [some (.inl (c)), none] [] (298, ShF, I, R)
  refine r_iconst dX4_leaderOf_0 ?_
  refine r_istore_n dX4_leaderOf_1 (by decide) ?_
  dsimp only [lset]
  exact hloop 4 _ (by omega) (by omega) (fun _ => by omega) (fun _ => by omega) (fun _ => by omega)
set_option maxHeartbeats 4000000 in
set_option maxRecDepth 100000 in
theorem c_kindOf (I : Mem) (R : RMem) (c : Int) (hc : -2147483648 ≤ c ∧ c ≤ 2147483647) : CC 1 0 0 yX4_kindOf cX4_kindOf 1 (some .int) [.inl (c)] (298, ShF, I, R) (PF (kdO c) I R) := by
  refine CC_of (own := RX4) (ini := false) (by decide +kernel) rfl (fun h => absurd h (by decide)) (Nat.le_of_ble_eq_true rfl) ?_
  show WW cX4_kindOf RX4 1 (some .int) false 1 0 0 (PF (kdO c) I R) 0 0 0 [some (.inl (c))] [] (298, ShF, I, R)
  refine r_iload_n dX4_kindOf_0 rfl ?_
  rcases (show c = 98 ∨ c = 108 ∨ c = 109 ∨ c = 112 ∨ c = 114 ∨ (c ≠ 98 ∧ c ≠ 108 ∧ c ≠ 109 ∧ c ≠ 112 ∧ c ≠ 114) by omega) with rfl | rfl | rfl | rfl | rfl | hcc
  · refine r_lkp (off := 59) (tgt := 60) dX4_kindOf_1 (by decide) (by decide) rfl (by decide) ?_
    refine r_iconst dX4_kindOf_60 ?_
    refine q_iretF dX4_kindOf_61 rfl ?_
    rfl
  · refine r_lkp (off := 51) (tgt := 52) dX4_kindOf_1 (by decide) (by decide) rfl (by decide) ?_
    refine r_iconst dX4_kindOf_52 ?_
    refine q_iretF dX4_kindOf_53 rfl ?_
    rfl
  · refine r_lkp (off := 55) (tgt := 56) dX4_kindOf_1 (by decide) (by decide) rfl (by decide) ?_
    refine r_iconst dX4_kindOf_56 ?_
    refine q_iretF dX4_kindOf_57 rfl ?_
    rfl
  · refine r_lkp (off := 57) (tgt := 58) dX4_kindOf_1 (by decide) (by decide) rfl (by decide) ?_
    refine r_iconst dX4_kindOf_58 ?_
    refine q_iretF dX4_kindOf_59 rfl ?_
    rfl
  · refine r_lkp (off := 53) (tgt := 54) dX4_kindOf_1 (by decide) (by decide) rfl (by decide) ?_
    refine r_iconst dX4_kindOf_54 ?_
    refine q_iretF dX4_kindOf_55 rfl ?_
    rfl
  · refine r_lkp (off := 61) (tgt := 62) dX4_kindOf_1 hc (by decide) ?_ (by decide) ?_
    · show Op.lookupswitch.offset [(98, 59), (108, 51), (109, 55), (112, 57), (114, 53)] 61 c = 61
      rw [Op.lookupswitch.offset_cons, if_neg (by omega), Op.lookupswitch.offset_cons, if_neg (by omega), Op.lookupswitch.offset_cons, if_neg (by omega), Op.lookupswitch.offset_cons, if_neg (by omega), Op.lookupswitch.offset_cons, if_neg (by omega)]
      rfl
    · refine r_iconst dX4_kindOf_62 ?_
      refine q_iretF dX4_kindOf_63 rfl ?_
      unfold kdO
      rw [if_neg (by omega), if_neg (by omega), if_neg (by omega), if_neg (by omega), if_neg (by omega)]
set_option maxHeartbeats 4000000 in
set_option maxRecDepth 100000 in
theorem c_skipSpaces (I : Mem) (R : RMem) (tx : Int → Int) (tl : Int) (hr : RdAt I R tx tl) (hat : 0 ≤ I 30 3 ∧ I 30 3 ≤ tl) : CC 2 0 0 yX4_skipSpaces cX4_skipSpaces 1 none [.inr (some 30)] (298, ShF, I, R) (PW R (fun I1 => I1 = u2 I 30 3 (sk tx tl (I 30 3)))) := by
  have hRO := hr.1
  have hlen := hr.2.2.1
  have htl := hr.2.2.2.1
  have htx := hr.2.2.2.2
  have hnb := nx_bd (tx := tx) (tl := tl) (fun j h1 h2 => (htx j h1 h2).2)
  have hloop : ∀ (n : Nat) (x : Int), tl < x + n → (0 ≤ x ∧ x ≤ tl) → sk tx tl (I 30 3) = sk tx tl x → WW cX4_skipSpaces RX4 1 none false 2 0 0 (PW R (fun I1 => I1 = u2 I 30 3 (sk tx tl (I 30 3)))) 0 0 0 [some (.inr (some 30))] [] (298, ShF, u2 I 30 3 x, R) := by
    intro n
    induction n with
    | zero => intros; exfalso; omega
    | succ n ih =>
      intro x g1 g2 g3
      refine r_aload_n dX4_skipSpaces_0 rfl ?_
      refine q_getI fl_X4_32 dX4_skipSpaces_1 sf_30 ?_
      rw [u2_s]
      refine r_aload_n dX4_skipSpaces_4 rfl ?_
      refine q_getI fl_X4_28 dX4_skipSpaces_5 sf_30 ?_
      rw [u2_n (Or.inr (by decide)), hlen]
      refine r_icmpge (tgt := 33) dX4_skipSpaces_8 (by decide) (by omega) (by omega) (fun h8 => ?_) (fun h8 => ?_)
      · refine q_vretW dX4_skipSpaces_33 rfl ?_
        rw [g3, sk_no ?_]
        intro hh
        first | omega | (have := (htx x (by omega) (by omega)); have h8 : nx tx tl x = tx x := if_pos (by omega); omega)
      · refine r_aload_n dX4_skipSpaces_11 rfl ?_
        refine q_callVF lk_X4_45 dX4_skipSpaces_12 (c_next _ R tx tl (hr.at x) (by rw [u2_s]; exact g2)) (by decide) sf_30 rfl rfl (Nat.le_of_ble_eq_true rfl) (by decide) ?_
        rw [u2_s]
        have hnx := hnb x
        refine r_bipush dX4_skipSpaces_15 (by decide) ?_
        refine r_icmpne (tgt := 33) dX4_skipSpaces_17 (by decide) (by omega) (by omega) (fun h17 => ?_) (fun h17 => ?_)
        · refine q_vretW dX4_skipSpaces_33 rfl ?_
          rw [g3, sk_no ?_]
          intro hh
          first | omega | (have := (htx x (by omega) (by omega)); have h8 : nx tx tl x = tx x := if_pos (by omega); omega)
        · refine r_aload_n dX4_skipSpaces_20 rfl ?_
          refine r_dup dX4_skipSpaces_21 ?_
          refine q_getI fl_X4_32 dX4_skipSpaces_22 sf_30 ?_
          rw [u2_s]
          refine r_iconst dX4_skipSpaces_25 ?_
          refine r_iadd dX4_skipSpaces_26 ?_
          refine q_putI fl_X4_32 dX4_skipSpaces_27 sf_30 ?_
          rw [u2_u2]
          refine r_goto (tgt := 0) dX4_skipSpaces_30 (by decide) ?_
          have h8 : nx tx tl x = tx x := if_pos (by omega)
          exact ih _ (by omega) (by omega) (by rw [g3]; exact sk_yes ⟨by omega, by omega⟩ ⟨by omega, by omega⟩)
  have h0 := hloop 101 (I 30 3) (by omega) hat rfl
  rw [u2_self] at h0
  refine CC_of (own := RX4) (ini := false) (by decide +kernel) rfl (fun h => absurd h (by decide)) (Nat.le_of_ble_eq_true rfl) ?_
  exact h0
set_option maxHeartbeats 4000000 in
set_option maxRecDepth 100000 in
theorem c_readPosition (I : Mem) (R : RMem) (tx : Int → Int) (tl : Int) (hr : RdAt I R tx tl) (hat : 0 ≤ I 30 3 ∧ I 30 3 ≤ tl) : CC 4 0 0 yX4_readPosition cX4_readPosition 2 (some .int) [.inr (some 30)] (298, ShF, I, R) (PZ R (fun z I1 => (¬ (49 ≤ nx tx tl (I 30 3) ∧ nx tx tl (I 30 3) ≤ 57) → z = 0 ∧ I1 = I) ∧ ((49 ≤ nx tx tl (I 30 3) ∧ nx tx tl (I 30 3) ≤ 57) → z = iP tx tl (I 30 3) ∧ I1 = u2 I 30 3 (iE tx tl (I 30 3))))) := by
  have hRO := hr.1
  have hlen := hr.2.2.1
  have htl := hr.2.2.2.1
  have htx := hr.2.2.2.2
  have hnb := nx_bd (tx := tx) (tl := tl) (fun j h1 h2 => (htx j h1 h2).2)
  refine CC_of (own := RX4) (ini := false) (by decide +kernel) rfl (fun h => absurd h (by decide)) (Nat.le_of_ble_eq_true rfl) ?_
  show WW cX4_readPosition RX4 2 (some .int) false 4 0 0 (PZ R (fun z I1 => (¬ (49 ≤ nx tx tl (I 30 3) ∧ nx tx tl (I 30 3) ≤ 57) → z = 0 ∧ I1 = I) ∧ ((49 ≤ nx tx tl (I 30 3) ∧ nx tx tl (I 30 3) ≤ 57) → z = iP tx tl (I 30 3) ∧ I1 = u2 I 30 3 (iE tx tl (I 30 3))))) 0 0 0 [some (.inr (some 30)), none] [] (298, ShF, I, R)
  refine r_aload_n dX4_readPosition_0 rfl ?_
  have h1 := hnb (I 30 3)
  have h2 := hnb (I 30 3 + 1)
  refine q_callVF lk_X4_45 dX4_readPosition_1 (c_next I R tx tl hr hat) (by decide) sf_30 rfl rfl (Nat.le_of_ble_eq_true rfl) (by decide) ?_
  refine q_callSF lk_X4_67 dX4_readPosition_4 (c_isDigit I R (nx tx tl (I 30 3)) (by omega)) (by decide) rfl rfl (Nat.le_of_ble_eq_true rfl) (by decide) ?_
  refine q_ifeqB (tgt := 19) dX4_readPosition_7 (by decide) (fun h7 => ?_) (fun h7 => ?_)
  · refine r_iconst dX4_readPosition_19 ?_
    refine q_iretZ dX4_readPosition_20 rfl ?_
    exact ⟨fun _ => ⟨rfl, rfl⟩, fun h => by omega⟩
  · refine r_aload_n dX4_readPosition_10 rfl ?_
    refine q_callVF lk_X4_45 dX4_readPosition_11 (c_next I R tx tl hr hat) (by decide) sf_30 rfl rfl (Nat.le_of_ble_eq_true rfl) (by decide) ?_
    refine r_bipush dX4_readPosition_14 (by decide) ?_
    refine r_icmpne (tgt := 21) dX4_readPosition_16 (by decide) (by omega) (by omega) (fun h16 => ?_) (fun h16 => ?_)
    · refine r_aload_n dX4_readPosition_21 rfl ?_
      refine q_callVF lk_X4_45 dX4_readPosition_22 (c_next I R tx tl hr hat) (by decide) sf_30 rfl rfl (Nat.le_of_ble_eq_true rfl) (by decide) ?_
      refine r_bipush dX4_readPosition_25 (by decide) ?_
      refine r_isub dX4_readPosition_27 ?_
      refine r_istore_n dX4_readPosition_28 (by decide) ?_
      dsimp only [lset]
      refine r_aload_n dX4_readPosition_29 rfl ?_
      refine r_dup dX4_readPosition_30 ?_
      refine q_getI fl_X4_32 dX4_readPosition_31 sf_30 ?_
      refine r_iconst dX4_readPosition_34 ?_
      refine r_iadd dX4_readPosition_35 ?_
      refine q_putI fl_X4_32 dX4_readPosition_36 sf_30 ?_
      refine r_aload_n dX4_readPosition_39 rfl ?_
      refine q_callVF lk_X4_45 dX4_readPosition_40 (c_next _ R tx tl (hr.at (I 30 3 + 1)) (by rw [u2_s]; omega)) (by decide) sf_30 rfl rfl (Nat.le_of_ble_eq_true rfl) (by decide) ?_
      rw [u2_s]
      refine q_callSF lk_X4_67 dX4_readPosition_43 (c_isDigit _ R (nx tx tl (I 30 3 + 1)) (by omega)) (by decide) rfl rfl (Nat.le_of_ble_eq_true rfl) (by decide) ?_
      refine q_ifeqB (tgt := 72) dX4_readPosition_46 (by decide) (fun h46 => ?_) (fun h46 => ?_)
      · refine r_iload_n dX4_readPosition_72 rfl ?_
        refine q_iretZ dX4_readPosition_73 rfl ?_
        refine ⟨fun h => by omega, fun _ => ?_⟩
        unfold iP iE
        first | (rw [if_pos h46, if_pos h46]; exact ⟨by omega, by rw [show I 30 3 + 1 + 1 = I 30 3 + 2 by omega]⟩) | (rw [if_neg h46, if_neg h46]; exact ⟨rfl, rfl⟩)
      · refine r_iload_n dX4_readPosition_49 rfl ?_
        refine r_bipush dX4_readPosition_50 (by decide) ?_
        refine r_imul dX4_readPosition_52 ?_
        refine r_aload_n dX4_readPosition_53 rfl ?_
        refine q_callVF lk_X4_45 dX4_readPosition_54 (c_next _ R tx tl (hr.at (I 30 3 + 1)) (by rw [u2_s]; omega)) (by decide) sf_30 rfl rfl (Nat.le_of_ble_eq_true rfl) (by decide) ?_
        rw [u2_s]
        refine r_iadd dX4_readPosition_57 ?_
        refine r_bipush dX4_readPosition_58 (by decide) ?_
        refine r_isub dX4_readPosition_60 ?_
        refine r_istore_n dX4_readPosition_61 (by decide) ?_
        dsimp only [lset]
        refine r_aload_n dX4_readPosition_62 rfl ?_
        refine r_dup dX4_readPosition_63 ?_
        refine q_getI fl_X4_32 dX4_readPosition_64 sf_30 ?_
        rw [u2_s]
        refine r_iconst dX4_readPosition_67 ?_
        refine r_iadd dX4_readPosition_68 ?_
        refine q_putI fl_X4_32 dX4_readPosition_69 sf_30 ?_
        rw [u2_u2]
        refine r_iload_n dX4_readPosition_72 rfl ?_
        refine q_iretZ dX4_readPosition_73 rfl ?_
        refine ⟨fun h => by omega, fun _ => ?_⟩
        unfold iP iE
        first | (rw [if_pos h46, if_pos h46]; exact ⟨by omega, by rw [show I 30 3 + 1 + 1 = I 30 3 + 2 by omega]⟩) | (rw [if_neg h46, if_neg h46]; exact ⟨rfl, rfl⟩)
    · refine r_iconst dX4_readPosition_19 ?_
      refine q_iretZ dX4_readPosition_20 rfl ?_
      exact ⟨fun _ => ⟨rfl, rfl⟩, fun h => by omega⟩
