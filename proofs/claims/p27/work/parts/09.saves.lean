/-! the abstract state of the whole object, and the class's picture of it -/
abbrev AS : Type := CS × Nat × (Nat → CS) × Nat × (Int → Int)
def SavOk (R : RMem) (sg : Nat → Nat) : Prop := (∀ j : Nat, j < 6 → 1 ≤ sg j ∧ sg j < 7 ∧ R 28 j = some (stB (sg j))) ∧ ∀ i j : Nat, i < 6 → j < 6 → sg i = sg j → i = j
def RInv (R : RMem) (π sg : Nat → Nat) : Prop := RefOk R ∧ StrS R 0 π ∧ (∀ k : Nat, 1 ≤ k → k < 7 → StrS R k (fun i => i)) ∧ SavOk R sg
def CI (I : Mem) (R : RMem) (π sg : Nat → Nat) (a : AS) : Prop := RInv R π sg ∧ AtS I 0 π a.1 ∧ I 0 2 = a.2.1 ∧ (∀ j : Nat, j < a.2.1 → AtS I (sg j) (fun i => i) (a.2.2.1 j)) ∧ I 0 4 = a.2.2.2.1 ∧ ∀ j : Int, 0 ≤ j → j < a.2.2.2.1 → I 29 j = a.2.2.2.2 j
abbrev okc (c : Int) : Prop := (97 ≤ c ∧ c ≤ 122) ∨ (48 ≤ c ∧ c ≤ 57) ∨ c = 46 ∨ c = 44 ∨ c = 32 ∨ c = 9
def WfY (y : YV) : Prop := (0 ≤ y.1 ∧ y.1 ≤ 19) ∧ (0 ≤ y.2.1 ∧ y.2.1 ≤ 19) ∧ SV y.2.2 ∧ cntF y.2.2 80 ≤ 8
def WfP (y : YV) : Prop := (0 ≤ y.1 ∧ y.1 ≤ 3) ∧ (0 ≤ y.2.1 ∧ y.2.1 ≤ 80) ∧ ∀ j : Int, 0 ≤ j → j < y.2.1 → okc (y.2.2 j)
def WfS (σ : CS) : Prop := (20 ≤ σ.1.1 ∧ σ.1.1 ≤ 80) ∧ (2 ≤ σ.1.2.1 ∧ σ.1.2.1 ≤ 20) ∧ (0 ≤ σ.1.2.2 ∧ σ.1.2.2 ≤ 8) ∧ (∀ i : Nat, i < 4 → WfY (σ.2.1 i)) ∧ ∀ i : Nat, (i : Int) < σ.1.2.2 → WfP (σ.2.2 i)
def AbsOk (a : AS) : Prop := WfS a.1 ∧ a.2.1 ≤ 6 ∧ (∀ j : Nat, j < a.2.1 → WfS (a.2.2.1 j)) ∧ a.2.2.2.1 ≤ 100 ∧ ∀ j : Int, 0 ≤ j → j < a.2.2.2.1 → 0 ≤ a.2.2.2.2 j ∧ a.2.2.2.2 j ≤ 255
def nS (n : Nat) : Nat := if n = 6 then 6 else n + 1
def pushS (σs : Nat → CS) (n : Nat) (σ : CS) : Nat → CS := fun j => if n = 6 then (if j = 5 then σ else σs (j + 1)) else (if j = n then σ else σs j)
def psh (a : AS) : AS := (a.1, nS a.2.1, pushS a.2.2.1 a.2.1 a.1, a.2.2.2)
def wS (a : AS) (σ : CS) : AS := (σ, a.2)
/-- a public call of the class: its answer and the state behind it, and the other object's cells stay -/
def PC (fa : Int × AS) (I : Mem) : Option MV → Wd → Prop := PZR (fun z I1 R1 => z = fa.1 ∧ (∃ π1 sg1 : Nat → Nat, CI I1 R1 π1 sg1 fa.2) ∧ ∀ (x : Nat) (j : Int), 290 ≤ x → I1 x j = I x j)
theorem RefOk.kept {R R1 : RMem} (h : RefOk R) (hk : ∀ (x : Nat) (j : Int), x ≠ 28 → x ≠ 3 → ¬ (x = 30 ∧ j = 1) → R1 x j = R x j) : RefOk R1 := by
  have g : ∀ (x : Nat) (j : Int) (v : Option Nat), x ≠ 28 → x ≠ 3 → ¬ (x = 30 ∧ j = 1) → R x j = v → R1 x j = v := fun x j v h1 h2 h3 h4 => (hk x j h1 h2 h3).trans h4
  unfold RefOk at h ⊢
  refine ⟨g _ _ _ (by decide) (by decide) (by decide) h.1, g _ _ _ (by decide) (by decide) (by decide) h.2.1, g _ _ _ (by decide) (by decide) (by decide) h.2.2.1, g _ _ _ (by decide) (by decide) (by decide) h.2.2.2.1, g _ _ _ (by decide) (by decide) (by decide) h.2.2.2.2.1, g _ _ _ (by decide) (by decide) (by decide) h.2.2.2.2.2.1, g _ _ _ (by decide) (by decide) (by decide) h.2.2.2.2.2.2.1, g _ _ _ (by decide) (by decide) (by decide) h.2.2.2.2.2.2.2.1, g _ _ _ (by decide) (by decide) (by decide) h.2.2.2.2.2.2.2.2.1, g _ _ _ (by decide) (by decide) (by decide) h.2.2.2.2.2.2.2.2.2.1, g _ _ _ (by decide) (by decide) (by decide) h.2.2.2.2.2.2.2.2.2.2.1, g _ _ _ (by decide) (by decide) (by decide) h.2.2.2.2.2.2.2.2.2.2.2.1, g _ _ _ (by decide) (by decide) (by decide) h.2.2.2.2.2.2.2.2.2.2.2.2.1, g _ _ _ (by decide) (by decide) (by decide) h.2.2.2.2.2.2.2.2.2.2.2.2.2.1, g _ _ _ (by decide) (by decide) (by decide) h.2.2.2.2.2.2.2.2.2.2.2.2.2.2.1, g _ _ _ (by decide) (by decide) (by decide) h.2.2.2.2.2.2.2.2.2.2.2.2.2.2.2.1, g _ _ _ (by decide) (by decide) (by decide) h.2.2.2.2.2.2.2.2.2.2.2.2.2.2.2.2.1, g _ _ _ (by decide) (by decide) (by decide) h.2.2.2.2.2.2.2.2.2.2.2.2.2.2.2.2.2.1, g _ _ _ (by decide) (by decide) (by decide) h.2.2.2.2.2.2.2.2.2.2.2.2.2.2.2.2.2.2.1, fun i hi => g _ _ _ (by decide) (by decide) (by omega) (h.2.2.2.2.2.2.2.2.2.2.2.2.2.2.2.2.2.2.2.1 i hi), fun k hk2 => ?_⟩
  have h9 := h.2.2.2.2.2.2.2.2.2.2.2.2.2.2.2.2.2.2.2.2 k hk2
  have hb := stB_in hk2
  refine ⟨g _ _ _ (by omega) (by omega) (by omega) h9.1, g _ _ _ (by omega) (by omega) (by omega) h9.2.1, fun i hi => ⟨g _ _ _ (by omega) (by omega) (by omega) (h9.2.2.1 i hi).1, g _ _ _ (by omega) (by omega) (by omega) (h9.2.2.1 i hi).2⟩, fun i hi => g _ _ _ (by omega) (by omega) (by omega) (h9.2.2.2 i hi)⟩
theorem StrS.kept {R R1 : RMem} {k : Nat} {π : Nat → Nat} (h : StrS R k π) (hk : ∀ j : Int, R1 (stB k + 2) j = R (stB k + 2) j) : StrS R1 k π := ⟨fun i hi => ⟨(h.1 i hi).1, (hk i).trans (h.1 i hi).2⟩, h.2⟩
theorem sav_at {R : RMem} {sg : Nat → Nat} (h : SavOk R sg) {i : Int} (hi : 0 ≤ i ∧ i < 6) : R 28 i = some (stB (sg i.toNat)) ∧ 1 ≤ sg i.toNat ∧ sg i.toNat < 7 := by
  obtain ⟨j, rfl⟩ : ∃ j : Nat, i = j := ⟨i.toNat, by omega⟩
  rw [Int.toNat_natCast]
  have h1 := h.1 j (by omega)
  exact ⟨h1.2.2, h1.1, h1.2.1⟩
theorem RInv.sav {R R1 : RMem} {π sg sg1 : Nat → Nat} (h : RInv R π sg) (hk : ∀ (x : Nat) (j : Int), x ≠ 28 → R1 x j = R x j) (hs : SavOk R1 sg1) : RInv R1 π sg1 := by
  refine ⟨h.1.kept (fun x j h1 _ _ => hk x j h1), h.2.1.kept (fun j => hk _ j (by decide)), fun k h1 h2 => (h.2.2.1 k h1 h2).kept (fun j => hk _ j ?_), hs⟩
  have := stB_in h2
  omega
theorem CI.bl {I I1 : Mem} {R : RMem} {π sg : Nat → Nat} {a : AS} (h : CI I R π sg a) (hk : ∀ (x : Nat) (j : Int), x < 30 ∨ (128 ≤ x ∧ x < 290) → I1 x j = I x j) (h6 : a.2.1 ≤ 6) : CI I1 R π sg a := by
  refine ⟨h.1, h.2.1.kept (fun i hi => (h.1.2.1.1 i hi).1) (fun x j h1 h2 => hk x j ?_), (hk _ _ (by omega)).trans h.2.2.1, fun j hj => (h.2.2.2.1 j hj).kept (fun i hi => hi) (fun x z h1 h2 => hk x z ?_), (hk _ _ (by omega)).trans h.2.2.2.2.1, fun j h1 h2 => (hk _ _ (by omega)).trans (h.2.2.2.2.2 j h1 h2)⟩
  · have : stB 0 = 1 := rfl
    omega
  · have hq := h.1.2.2.2.1 j (by omega)
    have := stB_in hq.2.1
    omega
set_option maxHeartbeats 4000000 in
set_option maxRecDepth 100000 in
theorem c_saveState (I : Mem) (R : RMem) (π sg : Nat → Nat) (a : AS) (hI : CI I R π sg a) (hA : AbsOk a) : CC 3 0 0 yX7_saveState cX7_saveState 3 none [.inr (some 0)] (290, ShF, I, R) (PWR (fun I1 R1 => (∃ sg1 : Nat → Nat, CI I1 R1 π sg1 (psh a)) ∧ (∀ (x : Nat) (j : Int), 290 ≤ x ∨ (1 ≤ x ∧ x < 128) → I1 x j = I x j) ∧ ∀ (x : Nat) (j : Int), x ≠ 28 → R1 x j = R x j)) := by
  have hRO := hI.1.1
  have hn6 := hA.2.1
  have hS0 : SF (stB 0) 3 0 := sf_1
  have htail : ∀ (I1 : Mem) (R1 : RMem) (sg1 : Nat → Nat) (σs1 : Nat → CS) (c : Nat) (u v : Option MV), c ≤ 5 → RInv R1 π sg1 → AtS I1 0 π a.1 → I1 0 2 = c → (∀ j : Nat, j < c → AtS I1 (sg1 j) (fun i => i) (σs1 j)) → (∀ (x : Nat) (j : Int), x ≠ 0 ∨ j ≠ 2 → I1 x j = I x j) → (∀ (x : Nat) (j : Int), x ≠ 28 → R1 x j = R x j) → nS a.2.1 = c + 1 → (∀ j : Nat, j < c → pushS a.2.2.1 a.2.1 a.1 j = σs1 j) → pushS a.2.2.1 a.2.1 a.1 c = a.1 → WW cX7_saveState RX7 3 none false 3 0 0 (PWR (fun I1 R1 => (∃ sg1 : Nat → Nat, CI I1 R1 π sg1 (psh a)) ∧ (∀ (x : Nat) (j : Int), 290 ≤ x ∨ (1 ≤ x ∧ x < 128) → I1 x j = I x j) ∧ ∀ (x : Nat) (j : Int), x ≠ 28 → R1 x j = R x j)) 0 0 56 [some (.inr (some 0)), u, v] [] (290, ShF, I1, R1) := by
    intro I1 R1 sg1 σs1 c u v hc hR1 h0 hcnt hsv hIk hRk e1 e2 e3
    have hRO := hR1.1
    have hsa := sav_at hR1.2.2.2 (i := I1 0 2) (by omega)
    have hcc : (I1 0 2).toNat = c := by omega
    rw [hcc] at hsa
    refine r_aload_n dX7_saveState_56 rfl ?_
    refine q_getR fl_X7_16 dX7_saveState_57 sf_0 (ro_0_1 hRO) ?_
    refine r_aload_n dX7_saveState_60 rfl ?_
    refine q_getI fl_X7_137 dX7_saveState_61 sf_0 ?_
    refine q_aald (t := 2) (by decide) dX7_saveState_64 sf_28 (by omega) hsa.1 ?_
    refine r_aload_n dX7_saveState_65 rfl ?_
    refine q_getR fl_X7_12 dX7_saveState_66 sf_0 (ro_0_0 hRO) ?_
    refine q_callVW lk_X7_201 dX7_saveState_69 (c_takeAllOf I1 R1 hRO (k := sg1 c) (q := 0) hsa.2.2 (by omega) (by omega) (hR1.2.2.1 _ hsa.2.1 hsa.2.2) hR1.2.1 h0) (by decide) (sf_S0 hsa.2.2) rfl rfl (Nat.le_of_ble_eq_true rfl) (by decide) (fun I2 hI2 => ?_)
    refine r_aload_n dX7_saveState_72 rfl ?_
    refine r_dup dX7_saveState_73 ?_
    refine q_getI fl_X7_137 dX7_saveState_74 sf_0 ?_
    refine r_iconst dX7_saveState_77 ?_
    refine r_iadd dX7_saveState_78 ?_
    refine q_putI fl_X7_137 dX7_saveState_79 sf_0 ?_
    refine q_vretWR dX7_saveState_82 rfl ?_
    have hb := stB_in hsa.2.2
    have hb1 := hb.2.2.2 (by omega)
    have hI3 : ∀ (x : Nat) (j : Int), x ≠ 0 → u2 I2 0 2 (I2 0 2 + 1) x j = I2 x j := fun x j h => u2_n (Or.inl h)
    have hb0 : stB 0 = 1 := rfl
    refine ⟨⟨sg1, hR1, ?_, ?_, ?_, ?_, ?_⟩, ?_, hRk⟩
    · exact h0.kept (fun i hi => (hR1.2.1.1 i hi).1) (fun x j h1 h2 => by rw [hI3 _ _ (by omega)]; exact hI2.2 x j (by omega))
    · rw [u2_s, hI2.2 _ _ (by omega), hcnt]
      show ((c : Nat) : Int) + 1 = ((nS a.2.1 : Nat) : Int)
      rw [e1]
      omega
    · intro j hj
      have hj : j < c + 1 := by rw [← e1]; exact hj
      show AtS _ _ _ (pushS a.2.2.1 a.2.1 a.1 j)
      by_cases hjc : j = c
      · subst hjc
        rw [e3]
        exact hI2.1.kept (fun i hi => hi) (fun x z h1 h2 => hI3 x z (by omega))
      · rw [e2 j (by omega)]
        have hjs := hR1.2.2.2.1 j (by omega)
        have hne : sg1 j ≠ sg1 c := fun e => hjc (hR1.2.2.2.2 j c (by omega) (by omega) e)
        have hap := stB_apart hne
        have hbj := stB_in hjs.2.1
        exact (hsv j (by omega)).kept (fun i hi => hi) (fun x z h1 h2 => by rw [hI3 x z (by omega)]; exact hI2.2 x z (by omega))
    · rw [u2_n (Or.inr (by decide)), hI2.2 _ _ (by omega), hIk _ _ (by omega)]
      exact hI.2.2.2.2.1
    · intro j h1 h2
      rw [hI3 _ _ (by omega), hI2.2 _ _ (by omega), hIk _ _ (by omega)]
      exact hI.2.2.2.2.2 j h1 h2
    · intro x j hx
      rw [hI3 _ _ (by omega), hI2.2 _ _ (by omega), hIk _ _ (by omega)]
  have hsg := hI.1.2.2.2
  have hloop : a.2.1 = 6 → ∀ (n : Nat) (i : Int) (R1 : RMem), 6 < i + n → 1 ≤ i → i ≤ 6 → (∀ j : Int, 0 ≤ j → j < 6 → R1 28 j = if j < i - 1 then R 28 (j + 1) else R 28 j) → (∀ (x : Nat) (j : Int), x ≠ 28 → R1 x j = R x j) → WW cX7_saveState RX7 3 none false 3 0 0 (PWR (fun I1 R1 => (∃ sg1 : Nat → Nat, CI I1 R1 π sg1 (psh a)) ∧ (∀ (x : Nat) (j : Int), 290 ≤ x ∨ (1 ≤ x ∧ x < 128) → I1 x j = I x j) ∧ ∀ (x : Nat) (j : Int), x ≠ 28 → R1 x j = R x j)) 0 0 18 [some (.inr (some 0)), some (.inr (some (stB (sg 0)))), some (.inl (i))] [] (290, ShF, I, R1) := by
    intro hn n
    induction n with
    | zero => intros; exfalso; omega
    | succ n ih =>
      intro i R1 g1 g2 g3 g4 g5
      refine r_iload_n dX7_saveState_18 rfl ?_
      refine r_bipush dX7_saveState_19 (by decide) ?_
      refine r_icmpge (tgt := 44) dX7_saveState_21 (by decide) (by omega) (by omega) (fun h21 => ?_) (fun h21 => ?_)
      · refine r_aload_n dX7_saveState_44 rfl ?_
        refine q_getR fl_X7_16 dX7_saveState_45 sf_0 (ro_0_1 (hI.1.1.kept (fun x j h1 _ _ => g5 x j h1))) ?_
        refine r_iconst dX7_saveState_48 ?_
        refine r_aload_n dX7_saveState_49 rfl ?_
        refine q_aast (t := 2) (ci := 3) (by decide) dX7_saveState_50 sf_28 (by omega) (sf_S0 (hsg.1 0 (by omega)).2.1) ?_
        refine r_aload_n dX7_saveState_51 rfl ?_
        refine r_iconst dX7_saveState_52 ?_
        refine q_putI fl_X7_137 dX7_saveState_53 sf_0 ?_
        refine htail _ _ (fun j => if j < 5 then sg (j + 1) else sg 0) (fun j => a.2.2.1 (j + 1)) 5 _ _ (by omega) ?_ ?_ u2_s ?_ (fun x j h => u2_n h) (fun x j h => by rw [u2_n (Or.inl h)]; exact g5 x j h) ?_ ?_ ?_
        · refine hI.1.sav (fun x j h => by rw [u2_n (Or.inl h)]; exact g5 x j h) ⟨fun j hj => ?_, fun z j hz hj => ?_⟩
          · dsimp only
            by_cases h5 : j < 5
            · rw [if_pos h5, u2_n (Or.inr (by omega)), g4 _ (by omega) (by omega), if_pos (by omega)]
              have h7 := hsg.1 (j + 1) (by omega)
              exact ⟨h7.1, h7.2.1, h7.2.2⟩
            · rw [if_neg h5, show j = 5 by omega]
              have h7 := hsg.1 0 (by omega)
              exact ⟨h7.1, h7.2.1, u2_s⟩
          · dsimp only
            by_cases h5 : z < 5 <;> by_cases h6 : j < 5
            · rw [if_pos h5, if_pos h6]
              intro e
              have := hsg.2 _ _ (by omega) (by omega) e
              omega
            · rw [if_pos h5, if_neg h6]
              intro e
              have := hsg.2 _ _ (by omega) (by omega) e
              omega
            · rw [if_neg h5, if_pos h6]
              intro e
              have := hsg.2 _ _ (by omega) (by omega) e
              omega
            · intro _
              omega
        · exact hI.2.1.kept (fun i hi => (hI.1.2.1.1 i hi).1) (fun x j h1 h2 => u2_n (Or.inl (by have : stB 0 = 1 := rfl; omega)))
        · intro j hj
          rw [if_pos hj]
          have h7 := hsg.1 (j + 1) (by omega)
          have hb := stB_in h7.2.1
          exact (hI.2.2.2.1 (j + 1) (by omega)).kept (fun i hi => hi) (fun x z h1 h2 => u2_n (Or.inl (by omega)))
        · unfold nS
          rw [if_pos (by omega)]
        · intro j hj
          unfold pushS
          rw [if_pos (by omega), if_neg (by omega)]
        · unfold pushS
          rw [if_pos (by omega), if_pos rfl]
      · refine r_aload_n dX7_saveState_24 rfl ?_
        refine q_getR fl_X7_16 dX7_saveState_25 sf_0 (ro_0_1 (hI.1.1.kept (fun x j h1 _ _ => g5 x j h1))) ?_
        refine r_iload_n dX7_saveState_28 rfl ?_
        refine r_iconst dX7_saveState_29 ?_
        refine r_isub dX7_saveState_30 ?_
        refine r_aload_n dX7_saveState_31 rfl ?_
        refine q_getR fl_X7_16 dX7_saveState_32 sf_0 (ro_0_1 (hI.1.1.kept (fun x j h1 _ _ => g5 x j h1))) ?_
        refine r_iload_n dX7_saveState_35 rfl ?_
        refine q_aald (t := 2) (by decide) dX7_saveState_36 sf_28 (by omega) ((g4 i (by omega) (by omega)).trans ((if_neg (by omega)).trans (sav_at hsg (i := i) (by omega)).1)) ?_
        refine q_aast (t := 2) (ci := 3) (by decide) dX7_saveState_37 sf_28 (by omega) (sf_S0 (sav_at hsg (i := i) (by omega)).2.2) ?_
        refine r_iinc dX7_saveState_38 rfl (by decide) ?_
        dsimp only [lset]
        refine r_goto (tgt := 18) dX7_saveState_41 (by decide) ?_
        refine ih _ _ (by omega) (by omega) (by omega) (fun j h1 h2 => ?_) (fun x j h => by rw [u2_n (Or.inl h)]; exact g5 x j h)
        by_cases hj : j = i - 1
        · rw [hj, u2_s, if_pos (by omega), show i - 1 + 1 = i by omega]
          exact (sav_at hsg (i := i) (by omega)).1.symm
        · rw [u2_n (Or.inr hj), g4 j h1 h2]
          by_cases h3 : j < i - 1
          · rw [if_pos h3, if_pos (by omega)]
          · rw [if_neg h3, if_neg (by omega)]
  refine CC_of (own := RX7) (ini := false) (by decide +kernel) rfl (fun h => absurd h (by decide)) (Nat.le_of_ble_eq_true rfl) ?_
  show WW cX7_saveState RX7 3 none false 3 0 0 (PWR (fun I1 R1 => (∃ sg1 : Nat → Nat, CI I1 R1 π sg1 (psh a)) ∧ (∀ (x : Nat) (j : Int), 290 ≤ x ∨ (1 ≤ x ∧ x < 128) → I1 x j = I x j) ∧ ∀ (x : Nat) (j : Int), x ≠ 28 → R1 x j = R x j)) 0 0 0 [some (.inr (some 0)), none, none] [] (290, ShF, I, R)
  refine r_aload_n dX7_saveState_0 rfl ?_
  refine q_getI fl_X7_137 dX7_saveState_1 sf_0 ?_
  have hcnt := hI.2.2.1
  refine r_bipush dX7_saveState_4 (by decide) ?_
  refine r_icmplt (tgt := 56) dX7_saveState_6 (by decide) (by omega) (by omega) (fun h6 => ?_) (fun h6 => ?_)
  · refine htail I R sg a.2.2.1 a.2.1 _ _ (by omega) hI.1 hI.2.1 hI.2.2.1 hI.2.2.2.1 (fun _ _ _ => rfl) (fun _ _ _ => rfl) ?_ ?_ ?_
    · unfold nS
      rw [if_neg (by omega)]
    · intro j hj
      unfold pushS
      rw [if_neg (by omega), if_neg (by omega)]
    · unfold pushS
      rw [if_neg (by omega), if_pos rfl]
  · refine r_aload_n dX7_saveState_9 rfl ?_
    refine q_getR fl_X7_16 dX7_saveState_10 sf_0 (ro_0_1 hRO) ?_
    refine r_iconst dX7_saveState_13 ?_
    refine q_aald (t := 2) (by decide) dX7_saveState_14 sf_28 (by omega) ((hsg.1 0 (by omega)).2.2) ?_
    refine r_astore_n dX7_saveState_15 (by decide) ?_
    dsimp only [lset]
    refine r_iconst dX7_saveState_16 ?_
    refine r_istore_n dX7_saveState_17 (by decide) ?_
    dsimp only [lset]
    exact hloop (by omega) 7 _ _ (by omega) (by omega) (by omega) (fun j h1 h2 => by rw [if_neg (by omega)]) (fun _ _ _ => rfl)
