/-! texts: the class -/
def fbad (tx : Int → Int) : Nat → Int
  | 0 => -1
  | n + 1 => if fbad tx n ≠ -1 then fbad tx n else if okc (tx n) then -1 else n
theorem fbad_keep {tx : Int → Int} {m : Nat} (h : fbad tx m ≠ -1) : ∀ n : Nat, m ≤ n → fbad tx n = fbad tx m
  | 0, hn => by rw [show m = 0 by omega]
  | n + 1, hn => by
    by_cases hm : m = n + 1
    · rw [hm]
    · have h1 := fbad_keep h n (by omega)
      show (if fbad tx n ≠ -1 then fbad tx n else if okc (tx n) then -1 else (n : Int)) = _
      rw [h1, if_pos h]
theorem fbad_ok {tx : Int → Int} : ∀ n : Nat, fbad tx n = -1 → ∀ j : Int, 0 ≤ j → j < n → okc (tx j)
  | 0, _, j, h1, h2 => by omega
  | n + 1, h, j, h1, h2 => by
    have hu : (if fbad tx n ≠ -1 then fbad tx n else if okc (tx n) then -1 else (n : Int)) = -1 := h
    by_cases hb : fbad tx n ≠ -1
    · rw [if_pos hb] at hu
      exact absurd hu hb
    · rw [if_neg hb] at hu
      by_cases hj : j = n
      · rw [hj]
        by_cases ho : okc (tx n)
        · exact ho
        · rw [if_neg ho] at hu
          omega
      · exact fbad_ok n (Decidable.not_not.mp hb) j h1 (by omega)
def mixF (tx : Int → Int) (tl : Int) (ch : Int → Int) : Int → Int := fun j => if 0 ≤ j ∧ j < tl then tx j else ch j
def wordF (ch : Int → Int) (len tc lc L : Int) : Int → Int := fun j => if j = len then tc else if len < j ∧ j ≤ len + L then lc else ch j
def dgt (w : Int) : Int := if 10000 ≤ w then 5 else if 1000 ≤ w then 4 else if 100 ≤ w then 3 else if 10 ≤ w then 2 else 1
def dig (w i : Int) : Int := if i = 0 then w % 10 else if i = 1 then w / 10 % 10 else if i = 2 then w / 100 % 10 else if i = 3 then w / 1000 % 10 else w / 10000 % 10
def amtF (ch : Int → Int) (len h : Int) : Int → Int := fun j =>
  if j = len then 9 else if len < j ∧ j ≤ len + dgt (h / 100) then 48 + dig (h / 100) (dgt (h / 100) - (j - len)) else if j = len + dgt (h / 100) + 1 then 46 else if j = len + dgt (h / 100) + 2 then 48 + h / 10 % 10 else if j = len + dgt (h / 100) + 3 then 48 + h % 10 else ch j
theorem dgt_in (w : Int) : (dgt w = 5 ∧ 10000 ≤ w) ∨ (dgt w = 4 ∧ 1000 ≤ w ∧ w < 10000) ∨ (dgt w = 3 ∧ 100 ≤ w ∧ w < 1000) ∨ (dgt w = 2 ∧ 10 ≤ w ∧ w < 100) ∨ (dgt w = 1 ∧ w < 10) := by
  unfold dgt
  split
  · omega
  · split
    · omega
    · split
      · omega
      · split <;> omega
def aTakeText (a : AS) (p : Int) : Int × AS :=
  if 0 ≤ p ∧ p ≤ a.1.1.2.2 - 1 then
    (if fbad a.2.2.2.2 a.2.2.2.1 ≠ -1 then (-2000 - fbad a.2.2.2.2 a.2.2.2.1, a) else if 80 < a.2.2.2.1 then (-3, a)
     else ((a.2.2.2.1 : Int), clr (wS (psh a) (setP a.1 p.toNat ((a.1.2.2 p.toNat).1, (a.2.2.2.1 : Int), mixF a.2.2.2.2 a.2.2.2.1 (a.1.2.2 p.toNat).2.2))))) else (-1, a)
def aAddWord (a : AS) (p t l L : Int) : Int × AS :=
  if (0 ≤ p ∧ p ≤ a.1.1.2.2 - 1) ∧ (0 ≤ t ∧ t ≤ 1) ∧ (0 ≤ l ∧ l ≤ 25) ∧ (1 ≤ L ∧ L ≤ 30) then
    (if 80 < (a.1.2.2 p.toNat).2.1 + 1 + L then (-3, a) else ((a.1.2.2 p.toNat).2.1 + 1 + L, wS (psh a) (setP a.1 p.toNat ((a.1.2.2 p.toNat).1, (a.1.2.2 p.toNat).2.1 + 1 + L, wordF (a.1.2.2 p.toNat).2.2 (a.1.2.2 p.toNat).2.1 (if t = 1 then 9 else 32) (97 + l) L)))) else (-1, a)
def aAddAmount (a : AS) (p h : Int) : Int × AS :=
  if (0 ≤ p ∧ p ≤ a.1.1.2.2 - 1) ∧ (0 ≤ h ∧ h ≤ 9999999) then
    (if 80 < (a.1.2.2 p.toNat).2.1 + 4 + dgt (h / 100) then (-3, a) else ((a.1.2.2 p.toNat).2.1 + 4 + dgt (h / 100), wS (psh a) (setP a.1 p.toNat ((a.1.2.2 p.toNat).1, (a.1.2.2 p.toNat).2.1 + 4 + dgt (h / 100), amtF (a.1.2.2 p.toNat).2.2 (a.1.2.2 p.toNat).2.1 h)))) else (-1, a)
/-- a paragraph that grows: n of its characters stand as g has them -/
def PG (I I1 : Mem) (a b : Nat) (n : Int) (g : Int → Int) : Prop := I a 1 = n ∧ (∀ j : Int, 0 ≤ j → I b j = if j < n then g j else I1 b j) ∧ ∀ (x : Nat) (j : Int), x ≠ b → ¬ (x = a ∧ j = 1) → I x j = I1 x j
theorem PG.step {I I1 : Mem} {a b : Nat} {n c : Int} {g : Int → Int} (h : PG I I1 a b n g) (hne : a ≠ b) (hc : g n = c) : PG (u2 (u2 I b (I a 1) c) a 1 (I a 1 + 1)) I1 a b (n + 1) g := by
  refine ⟨by rw [u2_s, h.1], fun j hj => ?_, fun x j h1 h2 => by rw [u2_n (by omega), u2_n (Or.inl h1)]; exact h.2.2 x j h1 h2⟩
  rw [u2_n (Or.inl (Ne.symm hne)), u2_at, h.1]
  by_cases hjn : j = n
  · rw [if_pos ⟨rfl, hjn⟩, if_pos (by omega), hjn, hc]
  · rw [if_neg (fun z => hjn z.2), h.2.1 j hj]
    by_cases hl : j < n
    · rw [if_pos hl, if_pos (by omega)]
    · rw [if_neg hl, if_neg (by omega)]
theorem PG.end {I I1 : Mem} {a b : Nat} {n st : Int} {g : Int → Int} (h : PG I I1 a b n g) (hne : a ≠ b) (h0 : I1 a 0 = st) (hg : ∀ j : Int, n ≤ j → j < 80 → I1 b j = g j) : AtP I a b (st, n, g) := by
  refine ⟨(h.2.2 _ _ hne (by omega)).trans h0, h.1, fun p h1 h2 => ?_⟩
  rw [h.2.1 p h1]
  by_cases hl : p < n
  · rw [if_pos hl]
  · rw [if_neg hl]
    exact hg p (by omega) h2
theorem rmF_pick {p c i : Nat} (hc : c < 8) (hp : p ≤ c) (hi : i < 8) : ∃ q : Nat, q < 8 ∧ (∀ (α : Type) (g : Nat → α), rmF g p c i = g q) ∧ ((p ≤ i ∧ i < c ∧ q = i + 1) ∨ (i = c ∧ q = p) ∨ (¬ (p ≤ i ∧ i < c) ∧ i ≠ c ∧ q = i)) := by
  by_cases h1 : p ≤ i ∧ i < c
  · exact ⟨i + 1, by omega, fun α g => if_pos h1, Or.inl ⟨h1.1, h1.2, rfl⟩⟩
  · by_cases h2 : i = c
    · exact ⟨p, by omega, fun α g => (if_neg h1).trans (if_pos h2), Or.inr (Or.inl ⟨h2, rfl⟩)⟩
    · exact ⟨i, hi, fun α g => (if_neg h1).trans (if_neg h2), Or.inr (Or.inr ⟨h1, h2, rfl⟩)⟩
set_option maxHeartbeats 4000000 in
set_option maxRecDepth 100000 in
theorem c_digitsOf (I : Mem) (R : RMem) (w : Int) (hw : 0 ≤ w ∧ w ≤ 99999) : CC 1 0 0 yX7_digitsOf cX7_digitsOf 3 (some .int) [.inl (w)] (290, ShF, I, R) (PF (dgt w) I R) := by
  have hD := dgt_in w
  have hloop : ∀ (n : Nat) (e dg u : Int), e < n → ((e = 4 ∧ u = 10000) ∨ (e = 3 ∧ u = 1000) ∨ (e = 2 ∧ u = 100) ∨ (e = 1 ∧ u = 10) ∨ (e = 0 ∧ u = 1)) → ((dg = dgt w - e ∧ e ≤ dgt w - 1) ∨ (dg = 1 ∧ dgt w - 1 < e)) → WW cX7_digitsOf RX7 3 (some .int) false 1 0 0 (PF (dgt w) I R) 0 0 6 [some (.inl (w)), some (.inl (dg)), some (.inl (u))] [] (290, ShF, I, R) := by
    intro n
    induction n with
    | zero => intros; exfalso; omega
    | succ n ih =>
      intro e dg u g1 g2 g3
      refine r_iload_n dX7_digitsOf_6 rfl ?_
      refine r_iconst dX7_digitsOf_7 ?_
      refine r_icmple (tgt := 27) dX7_digitsOf_8 (by decide) (by omega) (by omega) (fun h8 => ?_) (fun h8 => ?_)
      · refine r_iload_n dX7_digitsOf_27 rfl ?_
        refine q_iretF dX7_digitsOf_28 rfl ?_
        omega
      · refine r_iload_n dX7_digitsOf_11 rfl ?_
        refine r_iload_n dX7_digitsOf_12 rfl ?_
        refine r_icmplt (tgt := 19) dX7_digitsOf_13 (by decide) (by omega) (by omega) (fun h13 => ?_) (fun h13 => ?_)
        · refine r_iload_n dX7_digitsOf_19 rfl ?_
          refine r_bipush dX7_digitsOf_20 (by decide) ?_
          refine r_idiv dX7_digitsOf_22 (by omega) (by omega) ?_
          refine r_istore_n dX7_digitsOf_23 (by decide) ?_
          dsimp only [lset]
          refine r_goto (tgt := 6) dX7_digitsOf_24 (by decide) ?_
          exact ih (e - 1) _ _ (by omega) (by omega) (by omega)
        · refine r_iinc dX7_digitsOf_16 rfl (by decide) ?_
          dsimp only [lset]
          refine r_iload_n dX7_digitsOf_19 rfl ?_
          refine r_bipush dX7_digitsOf_20 (by decide) ?_
          refine r_idiv dX7_digitsOf_22 (by omega) (by omega) ?_
          refine r_istore_n dX7_digitsOf_23 (by decide) ?_
          dsimp only [lset]
          refine r_goto (tgt := 6) dX7_digitsOf_24 (by decide) ?_
          exact ih (e - 1) _ _ (by omega) (by omega) (by omega)
  refine CC_of (own := RX7) (ini := false) (by decide +kernel) rfl (fun h => absurd h (by decide)) (Nat.le_of_ble_eq_true rfl) ?_
  show WW cX7_digitsOf RX7 3 (some .int) false 1 0 0 (PF (dgt w) I R) 0 0 0 [some (.inl (w)), none, none] [] (290, ShF, I, R)
  refine r_iconst dX7_digitsOf_0 ?_
  refine r_istore_n dX7_digitsOf_1 (by decide) ?_
  dsimp only [lset]
  refine r_sipush dX7_digitsOf_2 (by decide) ?_
  refine r_istore_n dX7_digitsOf_5 (by decide) ?_
  dsimp only [lset]
  exact hloop 5 4 _ _ (by omega) (by omega) (by omega)
set_option maxHeartbeats 4000000 in
set_option maxRecDepth 100000 in
theorem k_removeParagraph (I : Mem) (R : RMem) (π sg : Nat → Nat) (a : AS) (hI : CI I R π sg a) (hA : AbsOk a) (p : Int) (hp : -2147483648 ≤ p ∧ p ≤ 2147483647) : CC 4 0 0 yX7_removeParagraph cX7_removeParagraph 4 (some .int) [.inr (some 0), .inl (p)] (290, ShF, I, R) (PC (aRemPar a p) I) := by
  have hRO := hI.1.1
  have hcols : I 1 0 = a.1.1.1 := hI.2.1.1
  have hdist : I 1 1 = a.1.1.2.1 := hI.2.1.2.1
  have hcnt : I 1 2 = a.1.1.2.2 := hI.2.1.2.2.1
  have hW := hA.1
  have hW1 := hW.1
  have hW2 := hW.2.1
  have hW3 := hW.2.2.1
  have htail : ∀ (I1 : Mem) (R1 : RMem) (sg1 : Nat → Nat), 0 ≤ p ∧ p ≤ a.1.1.2.2 - 1 → CI I1 R1 π sg1 (psh a) → (∀ (x : Nat) (j : Int), 290 ≤ x ∨ (1 ≤ x ∧ x < 128) → I1 x j = I x j) → ∀ (n : Nat) (i : Int) (R2 : RMem), a.1.1.2.2 < i + n + 1 → p ≤ i → i ≤ a.1.1.2.2 - 1 → (∀ j : Int, 0 ≤ j → j < 8 → R2 3 j = if p ≤ j ∧ j < i then R1 3 (j + 1) else R1 3 j) → (∀ (x : Nat) (j : Int), x ≠ 3 → R2 x j = R1 x j) → WW cX7_removeParagraph RX7 4 (some .int) false 4 0 0 (PC (aRemPar a p) I) 0 0 39 [some (.inr (some 0)), some (.inl p), some (.inr (some (12 + 2 * π p.toNat))), some (.inl i)] [] (290, ShF, u2 I1 1 2 (a.1.1.2.2 - 1), R2) := by
    intro I1 R1 sg1 hp1 hI1 hk1 n
    have hRO1 := hI1.1.1
    have hI1' : AtS I1 0 π a.1 := hI1.2.1
    have h61 := psh_6 a hA.2.1
    have hstr := hI1.1.2.1
    induction n with
    | zero => intros; exfalso; omega
    | succ n ih =>
      intro i R2 g1 g2 g3 g4 g5
      have hRO2 := hRO1.kept (fun x j _ h2 _ => g5 x j h2)
      have hc2 : u2 I1 1 2 (a.1.1.2.2 - 1) 1 2 = a.1.1.2.2 - 1 := u2_s
      refine r_iload_n dX7_removeParagraph_39 rfl ?_
      refine r_aload_n dX7_removeParagraph_40 rfl ?_
      refine q_getR fl_X7_12 dX7_removeParagraph_41 sf_0 (ro_0_0 hRO2) ?_
      refine q_getI fl_X7_101 dX7_removeParagraph_44 sf_1 ?_
      rw [hc2]
      refine r_icmpge (tgt := 76) dX7_removeParagraph_47 (by decide) (by omega) (by omega) (fun h47 => ?_) (fun h47 => ?_)
      · refine r_aload_n dX7_removeParagraph_76 rfl ?_
        refine q_getR fl_X7_12 dX7_removeParagraph_77 sf_0 (ro_0_0 hRO2) ?_
        refine q_getR fl_X7_104 dX7_removeParagraph_80 sf_1 (ro_1_4 hRO2) ?_
        refine r_aload_n dX7_removeParagraph_83 rfl ?_
        refine q_getR fl_X7_12 dX7_removeParagraph_84 sf_0 (ro_0_0 hRO2) ?_
        refine q_getI fl_X7_101 dX7_removeParagraph_87 sf_1 ?_
        rw [hc2]
        refine r_aload_n dX7_removeParagraph_90 rfl ?_
        refine q_aast (t := 4) (ci := 1) (by decide) dX7_removeParagraph_91 sf_3 (by omega) (rp0 hRO1 hstr (i := p) (by omega)).2.1.1 ?_
        refine r_aload_n dX7_removeParagraph_92 rfl ?_
        refine q_getR fl_X7_12 dX7_removeParagraph_93 sf_0 (ro_0_0 (hRO2.kept (fun x j _ h2 _ => u2_n (Or.inl h2)))) ?_
        refine q_getI fl_X7_101 dX7_removeParagraph_96 sf_1 ?_
        rw [hc2]
        refine q_iretZR dX7_removeParagraph_99 rfl ?_
        have e : aRemPar a p = (a.1.1.2.2 - 1, wS (psh a) ((a.1.1.1, a.1.1.2.1, a.1.1.2.2 - 1), a.1.2.1, rmF a.1.2.2 p.toNat (a.1.1.2.2 - 1).toNat)) := by
          unfold aRemPar
          rw [if_pos (by omega)]
        rw [e]
        have hpk := fun (i : Nat) (hi : i < 8) => rmF_pick (p := p.toNat) (c := (a.1.1.2.2 - 1).toNat) (by omega) (by omega) hi
        have hk : ∀ (x : Nat) (j : Int), ¬ (x = 1 ∧ j = 2) → u2 I1 1 2 (a.1.1.2.2 - 1) x j = I1 x j := fun x j h => u2_n (by omega)
        have hst2 : StrS (u2 R2 3 (a.1.1.2.2 - 1) (some (12 + 2 * π p.toNat))) 0 (rmF π p.toNat (a.1.1.2.2 - 1).toNat) := by
          refine ⟨fun q hq => ?_, fun q r hq hr hqr => ?_⟩
          · obtain ⟨z, hz, hz2, hz3⟩ := hpk q hq
            rw [hz2]
            have hzz := rp0 hRO1 hstr (i := z) (by omega)
            rw [Int.toNat_natCast] at hzz
            refine ⟨(hstr.1 z hz).1, ?_⟩
            show u2 R2 3 _ _ 3 (q : Int) = some (1 + (11 + 2 * π z))
            rw [show 1 + (11 + 2 * π z) = 12 + 2 * π z by omega, u2_at]
            rcases hz3 with h | h | h
            · rw [if_neg (by omega), g4 _ (by omega) (by omega), if_pos (by omega), show ((q : Int) + 1) = (z : Int) by omega]
              exact hzz.1
            · rw [if_pos (by omega), show p.toNat = z by omega]
            · rw [if_neg (by omega), g4 _ (by omega) (by omega), if_neg (by omega), show (q : Int) = (z : Int) by omega]
              exact hzz.1
          · obtain ⟨z, hz, hz2, hz3⟩ := hpk q hq
            obtain ⟨y, hy, hy2, hy3⟩ := hpk r hr
            rw [hz2, hy2] at hqr
            have := hstr.2 z y hz hy hqr
            omega
        have hRO3 : RefOk (u2 R2 3 (a.1.1.2.2 - 1) (some (12 + 2 * π p.toNat))) := hRO2.kept (fun x j _ h2 _ => u2_n (Or.inl h2))
        have hRI : RInv (u2 R2 3 (a.1.1.2.2 - 1) (some (12 + 2 * π p.toNat))) (rmF π p.toNat (a.1.1.2.2 - 1).toNat) sg1 := by
          refine ⟨hRO3, hst2, fun k h1 h2 => (hI1.1.2.2.1 k h1 h2).kept (fun j => ?_), ⟨fun j hj => ?_, hI1.1.2.2.2.2⟩⟩
          · have := stB_in h2
            rw [u2_n (Or.inl (by omega))]
            exact g5 _ _ (by omega)
          · have h9 := hI1.1.2.2.2.1 j hj
            exact ⟨h9.1, h9.2.1, by rw [u2_n (Or.inl (by decide)), g5 _ _ (by decide)]; exact h9.2.2⟩
        have hAt : AtS (u2 I1 1 2 (a.1.1.2.2 - 1)) 0 (rmF π p.toNat (a.1.1.2.2 - 1).toNat) ((a.1.1.1, a.1.1.2.1, a.1.1.2.2 - 1), a.1.2.1, rmF a.1.2.2 p.toNat (a.1.1.2.2 - 1).toNat) := by
          refine at0_mk ((hk _ _ (by decide)).trans hI1'.1) ((hk _ _ (by decide)).trans hI1'.2.1) u2_s (fun q hq => ?_) (fun q hq => ?_)
          · have h9 := at0_y hI1' (i := q) (by omega)
            rw [Int.toNat_natCast] at h9
            exact h9.kept (fun j => hk _ _ (by omega)) (fun j => hk _ _ (by omega))
          · obtain ⟨z, hz, hz2, hz3⟩ := hpk q hq
            show AtP _ _ _ (rmF a.1.2.2 p.toNat (a.1.1.2.2 - 1).toNat q)
            rw [hz2, hz2]
            have h9 := at0_p hI1' (i := z) (by omega)
            rw [Int.toNat_natCast] at h9
            exact h9.kept (fun j => hk _ _ (by omega)) (fun j => hk _ _ (by omega))
        exact ⟨rfl, ⟨rmF π p.toNat (a.1.1.2.2 - 1).toNat, sg1, hI1.st2 hRI h61 hAt (fun x j h1 h2 h3 => hk x j (by omega))⟩, fun x j h => by rw [hk _ _ (by omega)]; exact hk1 x j (Or.inl h)⟩
      · refine r_aload_n dX7_removeParagraph_50 rfl ?_
        refine q_getR fl_X7_12 dX7_removeParagraph_51 sf_0 (ro_0_0 hRO2) ?_
        refine q_getR fl_X7_104 dX7_removeParagraph_54 sf_1 (ro_1_4 hRO2) ?_
        refine r_iload_n dX7_removeParagraph_57 rfl ?_
        refine r_aload_n dX7_removeParagraph_58 rfl ?_
        refine q_getR fl_X7_12 dX7_removeParagraph_59 sf_0 (ro_0_0 hRO2) ?_
        refine q_getR fl_X7_104 dX7_removeParagraph_62 sf_1 (ro_1_4 hRO2) ?_
        refine r_iload_n dX7_removeParagraph_65 rfl ?_
        refine r_iconst dX7_removeParagraph_66 ?_
        refine r_iadd dX7_removeParagraph_67 ?_
        refine q_aald (t := 4) (by decide) dX7_removeParagraph_68 sf_3 (by omega) ((g4 (i + 1) (by omega) (by omega)).trans ((if_neg (by omega)).trans (rp0 hRO1 hstr (i := i + 1) (by omega)).1)) ?_
        refine q_aast (t := 4) (ci := 1) (by decide) dX7_removeParagraph_69 sf_3 (by omega) (rp0 hRO1 hstr (i := i + 1) (by omega)).2.1.1 ?_
        refine r_iinc dX7_removeParagraph_70 rfl (by decide) ?_
        dsimp only [lset]
        refine r_goto (tgt := 39) dX7_removeParagraph_73 (by decide) ?_
        refine ih _ _ (by omega) (by omega) (by omega) (fun j h1 h2 => ?_) (fun x j h => by rw [u2_n (Or.inl h)]; exact g5 x j h)
        rw [u2_at]
        by_cases hj : j = i
        · rw [if_pos ⟨rfl, hj⟩, if_pos (by omega), hj]
          exact (rp0 hRO1 hstr (i := i + 1) (by omega)).1.symm
        · rw [if_neg (fun z => hj z.2), g4 j h1 h2]
          by_cases h3 : p ≤ j ∧ j < i
          · rw [if_pos h3, if_pos (by omega)]
          · rw [if_neg h3, if_neg (by omega)]
  refine CC_of (own := RX7) (ini := false) (by decide +kernel) rfl (fun h => absurd h (by decide)) (Nat.le_of_ble_eq_true rfl) ?_
  show WW cX7_removeParagraph RX7 4 (some .int) false 4 0 0 (PC (aRemPar a p) I) 0 0 0 [some (.inr (some 0)), some (.inl (p)), none, none] [] (290, ShF, I, R)
  refine r_aload_n dX7_removeParagraph_0 rfl ?_
  refine r_iload_n dX7_removeParagraph_1 rfl ?_
  refine q_callVF lk_X7_116 dX7_removeParagraph_2 (c_isParagraph I R hRO a.1.1.2.2 hcnt hW3 p hp) (by decide) sf_0 rfl rfl (Nat.le_of_ble_eq_true rfl) (by decide) ?_
  refine q_ifneB (tgt := 10) dX7_removeParagraph_5 (by decide) (fun h5 => ?_) (fun h5 => ?_)
  · refine r_aload_n dX7_removeParagraph_10 rfl ?_
    refine q_callVWR lk_X7_42 dX7_removeParagraph_11 (c_saveState I R π sg a hI hA) (by decide) sf_0 rfl rfl (Nat.le_of_ble_eq_true rfl) (by decide) (fun I1 R1 hsv => ?_)
    obtain ⟨⟨sg1, hI1⟩, hk1, hr1⟩ := hsv
    have hRO1 := hI1.1.1
    have hI1' : AtS I1 0 π a.1 := hI1.2.1
    have h61 := psh_6 a hA.2.1
    have hc1 : I1 1 2 = a.1.1.2.2 := hI1'.2.2.1
    refine r_aload_n dX7_removeParagraph_14 rfl ?_
    refine q_getR fl_X7_12 dX7_removeParagraph_15 sf_0 (ro_0_0 hRO1) ?_
    refine q_getR fl_X7_104 dX7_removeParagraph_18 sf_1 (ro_1_4 hRO1) ?_
    refine r_iload_n dX7_removeParagraph_21 rfl ?_
    refine q_aald (t := 4) (by decide) dX7_removeParagraph_22 sf_3 (by omega) (rp0 hRO1 hI1.1.2.1 (i := p) (by omega)).1 ?_
    refine r_astore_n dX7_removeParagraph_23 (by decide) ?_
    dsimp only [lset]
    refine r_aload_n dX7_removeParagraph_24 rfl ?_
    refine q_getR fl_X7_12 dX7_removeParagraph_25 sf_0 (ro_0_0 hRO1) ?_
    refine r_dup dX7_removeParagraph_28 ?_
    refine q_getI fl_X7_101 dX7_removeParagraph_29 sf_1 ?_
    rw [hc1]
    refine r_iconst dX7_removeParagraph_32 ?_
    refine r_isub dX7_removeParagraph_33 ?_
    refine q_putI fl_X7_101 dX7_removeParagraph_34 sf_1 ?_
    refine r_iload_n dX7_removeParagraph_37 rfl ?_
    refine r_istore_n dX7_removeParagraph_38 (by decide) ?_
    dsimp only [lset]
    exact htail I1 R1 sg1 (by omega) hI1 hk1 9 p R1 (by omega) (by omega) (by omega) (fun j _ _ => (if_neg (by omega)).symm) (fun _ _ _ => rfl)
  · refine r_iconst dX7_removeParagraph_8 ?_
    refine q_iretZR dX7_removeParagraph_9 rfl ?_
    have e : aRemPar a p = (-1, a) := by
      unfold aRemPar
      rw [if_neg (by omega)]
    rw [e]
    exact ⟨rfl, ⟨π, sg, hI⟩, fun _ _ _ => rfl⟩
