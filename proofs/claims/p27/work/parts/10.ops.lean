/-! what the calls do, on the abstract state; the class's simple calls -/
def upY (g : Nat → YV) (i : Nat) (y : YV) : Nat → YV := fun j => if j = i then y else g j
def upF (g : Int → Int) (p v : Int) : Int → Int := fun q => if q = p then v else g q
def aSetNumber (a : AS) (wh v : Int) : Int × AS :=
  if wh = 0 ∧ 20 ≤ v ∧ v ≤ 80 then (a.1.1.1, wS (psh a) ((v, a.1.1.2), a.1.2))
  else if wh = 1 ∧ 2 ≤ v ∧ v ≤ 20 then (a.1.1.2.1, wS (psh a) ((a.1.1.1, v, a.1.1.2.2), a.1.2)) else (-1, a)
def aSetIndent (a : AS) (s wh v : Int) : Int × AS :=
  if (0 ≤ s ∧ s ≤ 3) ∧ (0 ≤ wh ∧ wh ≤ 1) ∧ (0 ≤ v ∧ v ≤ 19) then
    (if wh = 0 then ((a.1.2.1 s.toNat).1, wS (psh a) (a.1.1, upY a.1.2.1 s.toNat (v, (a.1.2.1 s.toNat).2), a.1.2.2))
     else ((a.1.2.1 s.toNat).2.1, wS (psh a) (a.1.1, upY a.1.2.1 s.toNat ((a.1.2.1 s.toNat).1, v, (a.1.2.1 s.toNat).2.2), a.1.2.2))) else (-1, a)
/-- a style with other stops -/
def setF (σ : CS) (i : Nat) (g : Int → Int) : CS := (σ.1, upY σ.2.1 i ((σ.2.1 i).1, (σ.2.1 i).2.1, g), σ.2.2)
def aSetStop (a : AS) (s p kd le : Int) : Int × AS :=
  if (0 ≤ s ∧ s ≤ 3) ∧ (1 ≤ p ∧ p ≤ 80) ∧ (0 ≤ kd ∧ kd ≤ 4) ∧ (0 ≤ le ∧ le ≤ (if kd = 4 then 0 else 3)) then
    (if (a.1.2.1 s.toNat).2.2 p = 0 ∧ 8 ≤ cntF (a.1.2.1 s.toNat).2.2 80 then (-3, a)
     else (cntF (upF (a.1.2.1 s.toNat).2.2 p (1 + kd * 4 + le)) (p - 1).toNat, wS (psh a) (setF a.1 s.toNat (upF (a.1.2.1 s.toNat).2.2 p (1 + kd * 4 + le))))) else (-1, a)
def posG (f : Int → Int) (k : Int) : Nat → Int
  | 0 => -9
  | n + 1 => if f ((n : Int) + 1) ≠ 0 ∧ cntF f n = k then (n : Int) + 1 else posG f k n
def posF (f : Int → Int) (k : Int) : Int := posG f k 80
def aRemoveStop (a : AS) (s k : Int) : Int × AS :=
  if (0 ≤ s ∧ s ≤ 3) ∧ posF (a.1.2.1 s.toNat).2.2 k ≠ -9 then
    (cntF (upF (a.1.2.1 s.toNat).2.2 (posF (a.1.2.1 s.toNat).2.2 k) 0) 80, wS (psh a) (setF a.1 s.toNat (upF (a.1.2.1 s.toNat).2.2 (posF (a.1.2.1 s.toNat).2.2 k) 0))) else (-1, a)
def aAppend (a : AS) (c : Int) : Int × AS :=
  if 0 ≤ c ∧ c ≤ 255 then (if 100 ≤ a.2.2.2.1 then (-3, a) else ((a.2.2.2.1 : Int) + 1, (a.1, a.2.1, a.2.2.1, a.2.2.2.1 + 1, upF a.2.2.2.2 a.2.2.2.1 c))) else (-1, a)
def clr (a : AS) : AS := (a.1, a.2.1, a.2.2.1, 0, a.2.2.2.2)
def aClear (a : AS) : Int × AS := ((a.2.2.2.1 : Int), clr a)
def setP (σ : CS) (i : Nat) (y : YV) : CS := (σ.1, σ.2.1, upY σ.2.2 i y)
def aAddPar (a : AS) (s : Int) : Int × AS :=
  if 0 ≤ s ∧ s ≤ 3 then (if 8 ≤ a.1.1.2.2 then (-3, a) else (a.1.1.2.2, wS (psh a) ((a.1.1.1, a.1.1.2.1, a.1.1.2.2 + 1), a.1.2.1, upY a.1.2.2 a.1.1.2.2.toNat (s, 0, (a.1.2.2 a.1.1.2.2.toNat).2.2)))) else (-1, a)
def rmF {α : Type} (g : Nat → α) (p c : Nat) : Nat → α := fun i => if p ≤ i ∧ i < c then g (i + 1) else if i = c then g p else g i
def isP (a : AS) (p : Int) : Prop := 0 ≤ p ∧ p ≤ a.1.1.2.2 - 1
def aRemPar (a : AS) (p : Int) : Int × AS :=
  if 0 ≤ p ∧ p ≤ a.1.1.2.2 - 1 then (a.1.1.2.2 - 1, wS (psh a) ((a.1.1.1, a.1.1.2.1, a.1.1.2.2 - 1), a.1.2.1, rmF a.1.2.2 p.toNat (a.1.1.2.2 - 1).toNat)) else (-1, a)
def aSetStyle (a : AS) (p s : Int) : Int × AS :=
  if (0 ≤ p ∧ p ≤ a.1.1.2.2 - 1) ∧ (0 ≤ s ∧ s ≤ 3) then ((a.1.2.2 p.toNat).1, wS (psh a) (setP a.1 p.toNat (s, (a.1.2.2 p.toNat).2))) else (-1, a)
def aUndo (a : AS) : Int × AS := if a.2.1 = 0 then (-2, a) else ((a.2.1 : Int) - 1, (a.2.2.1 (a.2.1 - 1), a.2.1 - 1, a.2.2))
theorem cntF_congr {f g : Int → Int} {n : Nat} (h : ∀ p : Int, 1 ≤ p → p ≤ n → f p = g p) : cntF f n = cntF g n := by
  induction n with
  | zero => rfl
  | succ n ih =>
    show cntF f n + (if f ((n : Int) + 1) = 0 then 0 else 1) = cntF g n + (if g ((n : Int) + 1) = 0 then 0 else 1)
    rw [ih (fun p h1 h2 => h p h1 (by omega)), h ((n : Int) + 1) (by omega) (by omega)]
theorem posG_spec {f : Int → Int} {k z : Int} (h : StpF f z ∧ cntF f (z - 1).toNat = k) : ∀ n : Nat, z ≤ n → posG f k n = z
  | 0, hn => by
    have := h.1.1
    omega
  | n + 1, hn => by
    show (if f ((n : Int) + 1) ≠ 0 ∧ cntF f n = k then (n : Int) + 1 else posG f k n) = z
    by_cases hz : z = (n : Int) + 1
    · rw [if_pos ?_]
      · exact hz.symm
      · have h1 := h.1.2.2
        have h2 := h.2
        rw [hz] at h1 h2
        rw [show ((n : Int) + 1 - 1).toNat = n by omega] at h2
        exact ⟨h1, h2⟩
    · rw [if_neg ?_]
      · exact posG_spec h n (by omega)
      · intro hh
        have h1 := h.1.2.2
        have hc := cntF_step f (p := z) h.1.1
        rw [if_neg h1] at hc
        have hm := cntF_mono f (m := z.toNat) (n := n) (by omega)
        have h2 := h.2
        have h3 := hh.2
        omega
theorem posG_none {f : Int → Int} {k : Int} (h : ∀ p : Int, StpF f p → cntF f (p - 1).toNat ≠ k) : ∀ n : Nat, n ≤ 80 → posG f k n = -9
  | 0, _ => rfl
  | n + 1, hn => by
    show (if f ((n : Int) + 1) ≠ 0 ∧ cntF f n = k then (n : Int) + 1 else posG f k n) = -9
    rw [if_neg ?_]
    · exact posG_none h n (by omega)
    · intro hh
      have := h ((n : Int) + 1) ⟨by omega, by omega, hh.1⟩
      rw [show ((n : Int) + 1 - 1).toNat = n by omega] at this
      exact this hh.2
theorem posR_F {f : Int → Int} {k z : Int} (h : PosR f k z) : z = posF f k ∧ (z ≠ -9 → StpF f z) := by
  rcases h with h | ⟨rfl, h⟩
  · exact ⟨(posG_spec h 80 (by have := h.1.2.1; omega)).symm, fun _ => h.1⟩
  · exact ⟨(posG_none h 80 (Nat.le_refl _)).symm, fun q => absurd rfl q⟩
theorem posR_congr {f g : Int → Int} (h : ∀ p : Int, 1 ≤ p → p ≤ 80 → f p = g p) {k z : Int} (hz : PosR f k z) : PosR g k z := by
  have st : ∀ p : Int, StpF g p → StpF f p := fun p q => ⟨q.1, q.2.1, by rw [h p q.1 q.2.1]; exact q.2.2⟩
  have ct : ∀ p : Int, StpF g p → cntF f (p - 1).toNat = cntF g (p - 1).toNat := fun p q => cntF_congr (fun x h1 h2 => h x h1 (by have := q.2.1; omega))
  rcases hz with ⟨h1, h2⟩ | ⟨h1, h2⟩
  · have h3 : StpF g z := ⟨h1.1, h1.2.1, by rw [← h z h1.1 h1.2.1]; exact h1.2.2⟩
    exact Or.inl ⟨h3, (ct z h3).symm.trans h2⟩
  · exact Or.inr ⟨h1, fun p q => by rw [← ct p q]; exact h2 p (st p q)⟩
theorem SV.congr {f g : Int → Int} (h : ∀ p : Int, 1 ≤ p → p ≤ 80 → f p = g p) (hf : SV g) : SV f := fun p h1 h2 => by rw [h p h1 h2]; exact hf p h1 h2
/-! places in the current state -/
theorem ry0 {R : RMem} (h : RefOk R) {i : Int} (hi : 0 ≤ i ∧ i < 4) : R 2 i = some (4 + 2 * i.toNat) ∧ StyAt R (4 + 2 * i.toNat) (5 + 2 * i.toNat) := by
  have h1 := ro_sty h (k := 0) (by omega) hi
  rw [show stB 0 = 1 from rfl, show 1 + (3 + 2 * i.toNat) = 4 + 2 * i.toNat by omega, show 1 + (4 + 2 * i.toNat) = 5 + 2 * i.toNat by omega] at h1
  exact h1
theorem rp0 {R : RMem} (h : RefOk R) {π : Nat → Nat} (hπ : StrS R 0 π) {i : Int} (hi : 0 ≤ i ∧ i < 8) : R 3 i = some (12 + 2 * π i.toNat) ∧ ParAt R (12 + 2 * π i.toNat) (13 + 2 * π i.toNat) ∧ π i.toNat < 8 := by
  have h1 := str_at hπ hi
  have h2 := ro_par h (k := 0) (by omega) h1.2
  rw [show stB 0 = 1 from rfl, show 1 + (11 + 2 * π i.toNat) = 12 + 2 * π i.toNat by omega] at h1 h2
  rw [show 1 + (12 + 2 * π i.toNat) = 13 + 2 * π i.toNat by omega] at h2
  exact ⟨h1.1, h2, h1.2⟩
theorem at0_y {I : Mem} {π : Nat → Nat} {σ : CS} (h : AtS I 0 π σ) {i : Int} (hi : 0 ≤ i ∧ i < 4) : AtY I (4 + 2 * i.toNat) (5 + 2 * i.toNat) (σ.2.1 i.toNat) := by
  have h1 := h.2.2.2.1 i.toNat (by omega)
  rw [show stB 0 = 1 from rfl, show 1 + (3 + 2 * i.toNat) = 4 + 2 * i.toNat by omega, show 1 + (4 + 2 * i.toNat) = 5 + 2 * i.toNat by omega] at h1
  exact h1
theorem at0_p {I : Mem} {π : Nat → Nat} {σ : CS} (h : AtS I 0 π σ) {i : Int} (hi : 0 ≤ i ∧ i < 8) : AtP I (12 + 2 * π i.toNat) (13 + 2 * π i.toNat) (σ.2.2 i.toNat) := by
  have h1 := h.2.2.2.2 i.toNat (by omega)
  rw [show stB 0 = 1 from rfl, show 1 + (11 + 2 * π i.toNat) = 12 + 2 * π i.toNat by omega, show 1 + (12 + 2 * π i.toNat) = 13 + 2 * π i.toNat by omega] at h1
  exact h1
theorem at0_mk {I : Mem} {π : Nat → Nat} {σ : CS} (h1 : I 1 0 = σ.1.1) (h2 : I 1 1 = σ.1.2.1) (h3 : I 1 2 = σ.1.2.2) (hy : ∀ i : Nat, i < 4 → AtY I (4 + 2 * i) (5 + 2 * i) (σ.2.1 i)) (hp : ∀ i : Nat, i < 8 → AtP I (12 + 2 * π i) (13 + 2 * π i) (σ.2.2 i)) : AtS I 0 π σ := by
  refine ⟨h1, h2, h3, fun i hi => ?_, fun i hi => ?_⟩
  · rw [show stB 0 = 1 from rfl, show 1 + (3 + 2 * i) = 4 + 2 * i by omega, show 1 + (4 + 2 * i) = 5 + 2 * i by omega]
    exact hy i hi
  · rw [show stB 0 = 1 from rfl, show 1 + (11 + 2 * π i) = 12 + 2 * π i by omega, show 1 + (12 + 2 * π i) = 13 + 2 * π i by omega]
    exact hp i hi
/-- the current state has changed, nothing else that counts -/
theorem CI.st {I I1 : Mem} {R : RMem} {π sg : Nat → Nat} {a : AS} {σ : CS} (h : CI I R π sg a) (h6 : a.2.1 ≤ 6) (h0 : AtS I1 0 π σ) (hk : ∀ (x : Nat) (j : Int), (x = 0 ∨ 28 ≤ x) → x < 30 ∨ 128 ≤ x → x < 290 → I1 x j = I x j) : CI I1 R π sg (wS a σ) := by
  refine ⟨h.1, h0, (hk _ _ (by omega) (by omega) (by omega)).trans h.2.2.1, fun j hj => (h.2.2.2.1 j hj).kept (fun i hi => hi) (fun x z h1 h2 => hk x z ?_ ?_ ?_), (hk _ _ (by omega) (by omega) (by omega)).trans h.2.2.2.2.1, fun j h1 h2 => (hk _ _ (by omega) (by omega) (by omega)).trans (h.2.2.2.2.2 j h1 h2)⟩ <;>
  · have hj : j < a.2.1 := hj
    have hq := h.1.2.2.2.1 j (by omega)
    have := stB_in hq.2.1
    omega
theorem CI.st2 {I I1 : Mem} {R R1 : RMem} {π π1 sg : Nat → Nat} {a : AS} {σ : CS} (h : CI I R π sg a) (hR : RInv R1 π1 sg) (h6 : a.2.1 ≤ 6) (h0 : AtS I1 0 π1 σ) (hk : ∀ (x : Nat) (j : Int), (x = 0 ∨ 28 ≤ x) → x < 30 ∨ 128 ≤ x → x < 290 → I1 x j = I x j) : CI I1 R1 π1 sg (wS a σ) := by
  refine ⟨hR, h0, (hk _ _ (by omega) (by omega) (by omega)).trans h.2.2.1, fun j hj => (h.2.2.2.1 j hj).kept (fun i hi => hi) (fun x z h1 h2 => hk x z ?_ ?_ ?_), (hk _ _ (by omega) (by omega) (by omega)).trans h.2.2.2.2.1, fun j h1 h2 => (hk _ _ (by omega) (by omega) (by omega)).trans (h.2.2.2.2.2 j h1 h2)⟩ <;>
  · have hj : j < a.2.1 := hj
    have hq := h.1.2.2.2.1 j (by omega)
    have := stB_in hq.2.1
    omega
theorem psh_6 (a : AS) (h : a.2.1 ≤ 6) : (psh a).2.1 ≤ 6 := by
  show nS a.2.1 ≤ 6
  unfold nS
  split <;> omega
set_option maxHeartbeats 4000000 in
set_option maxRecDepth 100000 in
theorem c_isStyle (I : Mem) (R : RMem) (s : Int) (hs : -2147483648 ≤ s ∧ s ≤ 2147483647) : CC 2 0 0 yX7_isStyle cX7_isStyle 2 (some .boolean) [.inr (some 0), .inl (s)] (290, ShF, I, R) (PF (b2i (0 ≤ s ∧ s ≤ 3)) I R) := by
  refine CC_of (own := RX7) (ini := false) (by decide +kernel) rfl (fun h => absurd h (by decide)) (Nat.le_of_ble_eq_true rfl) ?_
  show WW cX7_isStyle RX7 2 (some .boolean) false 2 0 0 (PF (b2i (0 ≤ s ∧ s ≤ 3)) I R) 0 0 0 [some (.inr (some 0)), some (.inl (s))] [] (290, ShF, I, R)
  refine r_iload_n dX7_isStyle_0 rfl ?_
  refine r_iconst dX7_isStyle_1 ?_
  refine r_iconst dX7_isStyle_2 ?_
  refine q_callSF lk_X7_38 dX7_isStyle_3 (c_isWithin I R s 0 3 hs (by decide) (by decide)) (by decide) rfl rfl (Nat.le_of_ble_eq_true rfl) (by decide) ?_
  refine q_zretF dX7_isStyle_6 rfl (b2i_01 _) ?_
  rfl
set_option maxHeartbeats 4000000 in
set_option maxRecDepth 100000 in
theorem c_isParagraph (I : Mem) (R : RMem) (hRO : RefOk R) (c : Int) (hc : I 1 2 = c) (hc8 : 0 ≤ c ∧ c ≤ 8) (p : Int) (hp : -2147483648 ≤ p ∧ p ≤ 2147483647) : CC 2 0 0 yX7_isParagraph cX7_isParagraph 2 (some .boolean) [.inr (some 0), .inl (p)] (290, ShF, I, R) (PF (b2i (0 ≤ p ∧ p ≤ c - 1)) I R) := by
  refine CC_of (own := RX7) (ini := false) (by decide +kernel) rfl (fun h => absurd h (by decide)) (Nat.le_of_ble_eq_true rfl) ?_
  show WW cX7_isParagraph RX7 2 (some .boolean) false 2 0 0 (PF (b2i (0 ≤ p ∧ p ≤ c - 1)) I R) 0 0 0 [some (.inr (some 0)), some (.inl (p))] [] (290, ShF, I, R)
  refine r_iload_n dX7_isParagraph_0 rfl ?_
  refine r_iconst dX7_isParagraph_1 ?_
  refine r_aload_n dX7_isParagraph_2 rfl ?_
  refine q_getR fl_X7_12 dX7_isParagraph_3 sf_0 (ro_0_0 hRO) ?_
  refine q_getI fl_X7_101 dX7_isParagraph_6 sf_1 ?_
  rw [hc]
  refine r_iconst dX7_isParagraph_9 ?_
  refine r_isub dX7_isParagraph_10 ?_
  refine q_callSF lk_X7_38 dX7_isParagraph_11 (c_isWithin I R p 0 (c - 1) hp (by decide) (by omega)) (by decide) rfl rfl (Nat.le_of_ble_eq_true rfl) (by decide) ?_
  refine q_zretF dX7_isParagraph_14 rfl (b2i_01 _) ?_
  rfl
set_option maxHeartbeats 4000000 in
set_option maxRecDepth 100000 in
theorem k_setNumber (I : Mem) (R : RMem) (π sg : Nat → Nat) (a : AS) (hI : CI I R π sg a) (hA : AbsOk a) (wh : Int) (hwh : -2147483648 ≤ wh ∧ wh ≤ 2147483647) (v : Int) (hv : -2147483648 ≤ v ∧ v ≤ 2147483647) : CC 4 0 0 yX7_setNumber cX7_setNumber 4 (some .int) [.inr (some 0), .inl (wh), .inl (v)] (290, ShF, I, R) (PC (aSetNumber a wh v) I) := by
  have hRO := hI.1.1
  have hcols : I 1 0 = a.1.1.1 := hI.2.1.1
  have hdist : I 1 1 = a.1.1.2.1 := hI.2.1.2.1
  have hcnt : I 1 2 = a.1.1.2.2 := hI.2.1.2.2.1
  have hW := hA.1
  have hW1 := hW.1
  have hW2 := hW.2.1
  have hW3 := hW.2.2.1
  refine CC_of (own := RX7) (ini := false) (by decide +kernel) rfl (fun h => absurd h (by decide)) (Nat.le_of_ble_eq_true rfl) ?_
  show WW cX7_setNumber RX7 4 (some .int) false 4 0 0 (PC (aSetNumber a wh v) I) 0 0 0 [some (.inr (some 0)), some (.inl (wh)), some (.inl (v)), none] [] (290, ShF, I, R)
  refine r_iload_n dX7_setNumber_0 rfl ?_
  refine r_ifne (tgt := 37) dX7_setNumber_1 (by decide) (by omega) (fun h1 => ?_) (fun h1 => ?_)
  · refine r_iload_n dX7_setNumber_37 rfl ?_
    refine r_iconst dX7_setNumber_38 ?_
    refine r_icmpne (tgt := 74) dX7_setNumber_39 (by decide) (by omega) (by omega) (fun h39 => ?_) (fun h39 => ?_)
    · refine r_iconst dX7_setNumber_74 ?_
      refine q_iretZR dX7_setNumber_75 rfl ?_
      have e : aSetNumber a wh v = (-1, a) := by
        unfold aSetNumber
        rw [if_neg (by omega), if_neg (by omega)]
      rw [e]
      exact ⟨rfl, ⟨π, sg, hI⟩, fun _ _ _ => rfl⟩
    · refine r_iload_n dX7_setNumber_42 rfl ?_
      refine r_iconst dX7_setNumber_43 ?_
      refine r_bipush dX7_setNumber_44 (by decide) ?_
      refine q_callSF lk_X7_38 dX7_setNumber_46 (c_isWithin I R v 2 20 hv (by decide) (by decide)) (by decide) rfl rfl (Nat.le_of_ble_eq_true rfl) (by decide) ?_
      refine q_ifeqB (tgt := 74) dX7_setNumber_49 (by decide) (fun h49 => ?_) (fun h49 => ?_)
      · refine r_iconst dX7_setNumber_74 ?_
        refine q_iretZR dX7_setNumber_75 rfl ?_
        have e : aSetNumber a wh v = (-1, a) := by
          unfold aSetNumber
          rw [if_neg (by omega), if_neg (by omega)]
        rw [e]
        exact ⟨rfl, ⟨π, sg, hI⟩, fun _ _ _ => rfl⟩
      · refine r_aload_n dX7_setNumber_52 rfl ?_
        refine q_callVWR lk_X7_42 dX7_setNumber_53 (c_saveState I R π sg a hI hA) (by decide) sf_0 rfl rfl (Nat.le_of_ble_eq_true rfl) (by decide) (fun I1 R1 hs => ?_)
        obtain ⟨⟨sg1, hI1⟩, hk1, hr1⟩ := hs
        have hRO1 := hI1.1.1
        have hI1' : AtS I1 0 π a.1 := hI1.2.1
        have h61 := psh_6 a hA.2.1
        refine r_aload_n dX7_setNumber_56 rfl ?_
        refine q_getR fl_X7_12 dX7_setNumber_57 sf_0 (ro_0_0 hRO1) ?_
        refine q_getI fl_X7_49 dX7_setNumber_60 sf_1 ?_
        refine r_istore_n dX7_setNumber_63 (by decide) ?_
        dsimp only [lset]
        refine r_aload_n dX7_setNumber_64 rfl ?_
        refine q_getR fl_X7_12 dX7_setNumber_65 sf_0 (ro_0_0 hRO1) ?_
        refine r_iload_n dX7_setNumber_68 rfl ?_
        refine q_putI fl_X7_49 dX7_setNumber_69 sf_1 ?_
        refine r_iload_n dX7_setNumber_72 rfl ?_
        refine q_iretZR dX7_setNumber_73 rfl ?_
        have e : aSetNumber a wh v = (a.1.1.2.1, wS (psh a) ((a.1.1.1, v, a.1.1.2.2), a.1.2)) := by
          unfold aSetNumber
          rw [if_neg (by omega), if_pos (by omega)]
        rw [e]
        refine ⟨hI1'.2.1, ⟨π, sg1, hI1.st h61 (at0_mk (by rw [u2_n (Or.inr (by decide))]; exact hI1'.1) u2_s (by rw [u2_n (Or.inr (by decide))]; exact hI1'.2.2.1) (fun i hi => ?_) (fun i hi => ?_)) (fun x j h1 _ _ => u2_n (Or.inl (by omega)))⟩, fun x j h => by rw [u2_n (Or.inl (by omega))]; exact hk1 x j (Or.inl h)⟩
        · have h9 := at0_y hI1' (i := i) (by omega)
          rw [Int.toNat_natCast] at h9
          exact h9.kept (fun j => u2_n (Or.inl (by omega))) (fun j => u2_n (Or.inl (by omega)))
        · have h9 := at0_p hI1' (i := i) (by omega)
          rw [Int.toNat_natCast] at h9
          exact h9.kept (fun j => u2_n (Or.inl (by omega))) (fun j => u2_n (Or.inl (by omega)))
  · refine r_iload_n dX7_setNumber_4 rfl ?_
    refine r_bipush dX7_setNumber_5 (by decide) ?_
    refine r_bipush dX7_setNumber_7 (by decide) ?_
    refine q_callSF lk_X7_38 dX7_setNumber_9 (c_isWithin I R v 20 80 hv (by decide) (by decide)) (by decide) rfl rfl (Nat.le_of_ble_eq_true rfl) (by decide) ?_
    refine q_ifeqB (tgt := 37) dX7_setNumber_12 (by decide) (fun h12 => ?_) (fun h12 => ?_)
    · refine r_iload_n dX7_setNumber_37 rfl ?_
      refine r_iconst dX7_setNumber_38 ?_
      refine r_icmpne (tgt := 74) dX7_setNumber_39 (by decide) (by omega) (by omega) (fun h39 => ?_) (fun h39 => ?_)
      · refine r_iconst dX7_setNumber_74 ?_
        refine q_iretZR dX7_setNumber_75 rfl ?_
        have e : aSetNumber a wh v = (-1, a) := by
          unfold aSetNumber
          rw [if_neg (by omega), if_neg (by omega)]
        rw [e]
        exact ⟨rfl, ⟨π, sg, hI⟩, fun _ _ _ => rfl⟩
      · refine r_iload_n dX7_setNumber_42 rfl ?_
        refine r_iconst dX7_setNumber_43 ?_
        refine r_bipush dX7_setNumber_44 (by decide) ?_
        refine q_callSF lk_X7_38 dX7_setNumber_46 (c_isWithin I R v 2 20 hv (by decide) (by decide)) (by decide) rfl rfl (Nat.le_of_ble_eq_true rfl) (by decide) ?_
        refine q_ifeqB (tgt := 74) dX7_setNumber_49 (by decide) (fun h49 => ?_) (fun h49 => ?_)
        · refine r_iconst dX7_setNumber_74 ?_
          refine q_iretZR dX7_setNumber_75 rfl ?_
          have e : aSetNumber a wh v = (-1, a) := by
            unfold aSetNumber
            rw [if_neg (by omega), if_neg (by omega)]
          rw [e]
          exact ⟨rfl, ⟨π, sg, hI⟩, fun _ _ _ => rfl⟩
        · refine r_aload_n dX7_setNumber_52 rfl ?_
          refine q_callVWR lk_X7_42 dX7_setNumber_53 (c_saveState I R π sg a hI hA) (by decide) sf_0 rfl rfl (Nat.le_of_ble_eq_true rfl) (by decide) (fun I1 R1 hs => ?_)
          obtain ⟨⟨sg1, hI1⟩, hk1, hr1⟩ := hs
          have hRO1 := hI1.1.1
          have hI1' : AtS I1 0 π a.1 := hI1.2.1
          have h61 := psh_6 a hA.2.1
          refine r_aload_n dX7_setNumber_56 rfl ?_
          refine q_getR fl_X7_12 dX7_setNumber_57 sf_0 (ro_0_0 hRO1) ?_
          refine q_getI fl_X7_49 dX7_setNumber_60 sf_1 ?_
          refine r_istore_n dX7_setNumber_63 (by decide) ?_
          dsimp only [lset]
          refine r_aload_n dX7_setNumber_64 rfl ?_
          refine q_getR fl_X7_12 dX7_setNumber_65 sf_0 (ro_0_0 hRO1) ?_
          refine r_iload_n dX7_setNumber_68 rfl ?_
          refine q_putI fl_X7_49 dX7_setNumber_69 sf_1 ?_
          refine r_iload_n dX7_setNumber_72 rfl ?_
          refine q_iretZR dX7_setNumber_73 rfl ?_
          have e : aSetNumber a wh v = (a.1.1.2.1, wS (psh a) ((a.1.1.1, v, a.1.1.2.2), a.1.2)) := by
            unfold aSetNumber
            rw [if_neg (by omega), if_pos (by omega)]
          rw [e]
          refine ⟨hI1'.2.1, ⟨π, sg1, hI1.st h61 (at0_mk (by rw [u2_n (Or.inr (by decide))]; exact hI1'.1) u2_s (by rw [u2_n (Or.inr (by decide))]; exact hI1'.2.2.1) (fun i hi => ?_) (fun i hi => ?_)) (fun x j h1 _ _ => u2_n (Or.inl (by omega)))⟩, fun x j h => by rw [u2_n (Or.inl (by omega))]; exact hk1 x j (Or.inl h)⟩
          · have h9 := at0_y hI1' (i := i) (by omega)
            rw [Int.toNat_natCast] at h9
            exact h9.kept (fun j => u2_n (Or.inl (by omega))) (fun j => u2_n (Or.inl (by omega)))
          · have h9 := at0_p hI1' (i := i) (by omega)
            rw [Int.toNat_natCast] at h9
            exact h9.kept (fun j => u2_n (Or.inl (by omega))) (fun j => u2_n (Or.inl (by omega)))
    · refine r_aload_n dX7_setNumber_15 rfl ?_
      refine q_callVWR lk_X7_42 dX7_setNumber_16 (c_saveState I R π sg a hI hA) (by decide) sf_0 rfl rfl (Nat.le_of_ble_eq_true rfl) (by decide) (fun I1 R1 hs => ?_)
      obtain ⟨⟨sg1, hI1⟩, hk1, hr1⟩ := hs
      have hRO1 := hI1.1.1
      have hI1' : AtS I1 0 π a.1 := hI1.2.1
      have h61 := psh_6 a hA.2.1
      refine r_aload_n dX7_setNumber_19 rfl ?_
      refine q_getR fl_X7_12 dX7_setNumber_20 sf_0 (ro_0_0 hRO1) ?_
      refine q_getI fl_X7_45 dX7_setNumber_23 sf_1 ?_
      refine r_istore_n dX7_setNumber_26 (by decide) ?_
      dsimp only [lset]
      refine r_aload_n dX7_setNumber_27 rfl ?_
      refine q_getR fl_X7_12 dX7_setNumber_28 sf_0 (ro_0_0 hRO1) ?_
      refine r_iload_n dX7_setNumber_31 rfl ?_
      refine q_putI fl_X7_45 dX7_setNumber_32 sf_1 ?_
      refine r_iload_n dX7_setNumber_35 rfl ?_
      refine q_iretZR dX7_setNumber_36 rfl ?_
      have e : aSetNumber a wh v = (a.1.1.1, wS (psh a) ((v, a.1.1.2), a.1.2)) := by
        unfold aSetNumber
        rw [if_pos (by omega)]
      rw [e]
      refine ⟨hI1'.1, ⟨π, sg1, hI1.st h61 (at0_mk u2_s (by rw [u2_n (Or.inr (by decide))]; exact hI1'.2.1) (by rw [u2_n (Or.inr (by decide))]; exact hI1'.2.2.1) (fun i hi => ?_) (fun i hi => ?_)) (fun x j h1 _ _ => u2_n (Or.inl (by omega)))⟩, fun x j h => by rw [u2_n (Or.inl (by omega))]; exact hk1 x j (Or.inl h)⟩
      · have h9 := at0_y hI1' (i := i) (by omega)
        rw [Int.toNat_natCast] at h9
        exact h9.kept (fun j => u2_n (Or.inl (by omega))) (fun j => u2_n (Or.inl (by omega)))
      · have h9 := at0_p hI1' (i := i) (by omega)
        rw [Int.toNat_natCast] at h9
        exact h9.kept (fun j => u2_n (Or.inl (by omega))) (fun j => u2_n (Or.inl (by omega)))
set_option maxHeartbeats 4000000 in
set_option maxRecDepth 100000 in
theorem k_setIndent (I : Mem) (R : RMem) (π sg : Nat → Nat) (a : AS) (hI : CI I R π sg a) (hA : AbsOk a) (s : Int) (hs : -2147483648 ≤ s ∧ s ≤ 2147483647) (wh : Int) (hwh : -2147483648 ≤ wh ∧ wh ≤ 2147483647) (v : Int) (hv : -2147483648 ≤ v ∧ v ≤ 2147483647) : CC 4 0 0 yX7_setIndent cX7_setIndent 6 (some .int) [.inr (some 0), .inl (s), .inl (wh), .inl (v)] (290, ShF, I, R) (PC (aSetIndent a s wh v) I) := by
  have hRO := hI.1.1
  have hcols : I 1 0 = a.1.1.1 := hI.2.1.1
  have hdist : I 1 1 = a.1.1.2.1 := hI.2.1.2.1
  have hcnt : I 1 2 = a.1.1.2.2 := hI.2.1.2.2.1
  have hW := hA.1
  have hW1 := hW.1
  have hW2 := hW.2.1
  have hW3 := hW.2.2.1
  refine CC_of (own := RX7) (ini := false) (by decide +kernel) rfl (fun h => absurd h (by decide)) (Nat.le_of_ble_eq_true rfl) ?_
  show WW cX7_setIndent RX7 6 (some .int) false 4 0 0 (PC (aSetIndent a s wh v) I) 0 0 0 [some (.inr (some 0)), some (.inl (s)), some (.inl (wh)), some (.inl (v)), none, none] [] (290, ShF, I, R)
  refine r_aload_n dX7_setIndent_0 rfl ?_
  refine r_iload_n dX7_setIndent_1 rfl ?_
  refine q_callVF lk_X7_52 dX7_setIndent_2 (c_isStyle I R s hs) (by decide) sf_0 rfl rfl (Nat.le_of_ble_eq_true rfl) (by decide) ?_
  refine q_ifeqB (tgt := 27) dX7_setIndent_5 (by decide) (fun h5 => ?_) (fun h5 => ?_)
  · refine r_iconst dX7_setIndent_27 ?_
    refine q_iretZR dX7_setIndent_28 rfl ?_
    have e : aSetIndent a s wh v = (-1, a) := by
      unfold aSetIndent
      rw [if_neg (by omega)]
    rw [e]
    exact ⟨rfl, ⟨π, sg, hI⟩, fun _ _ _ => rfl⟩
  · refine r_iload_n dX7_setIndent_8 rfl ?_
    refine r_iconst dX7_setIndent_9 ?_
    refine r_iconst dX7_setIndent_10 ?_
    refine q_callSF lk_X7_38 dX7_setIndent_11 (c_isWithin I R wh 0 1 hwh (by decide) (by decide)) (by decide) rfl rfl (Nat.le_of_ble_eq_true rfl) (by decide) ?_
    refine q_ifeqB (tgt := 27) dX7_setIndent_14 (by decide) (fun h14 => ?_) (fun h14 => ?_)
    · refine r_iconst dX7_setIndent_27 ?_
      refine q_iretZR dX7_setIndent_28 rfl ?_
      have e : aSetIndent a s wh v = (-1, a) := by
        unfold aSetIndent
        rw [if_neg (by omega)]
      rw [e]
      exact ⟨rfl, ⟨π, sg, hI⟩, fun _ _ _ => rfl⟩
    · refine r_iload_n dX7_setIndent_17 rfl ?_
      refine r_iconst dX7_setIndent_18 ?_
      refine r_bipush dX7_setIndent_19 (by decide) ?_
      refine q_callSF lk_X7_38 dX7_setIndent_21 (c_isWithin I R v 0 19 hv (by decide) (by decide)) (by decide) rfl rfl (Nat.le_of_ble_eq_true rfl) (by decide) ?_
      refine q_ifneB (tgt := 29) dX7_setIndent_24 (by decide) (fun h24 => ?_) (fun h24 => ?_)
      · refine r_aload_n dX7_setIndent_29 rfl ?_
        refine q_callVWR lk_X7_42 dX7_setIndent_30 (c_saveState I R π sg a hI hA) (by decide) sf_0 rfl rfl (Nat.le_of_ble_eq_true rfl) (by decide) (fun I1 R1 hs0 => ?_)
        obtain ⟨⟨sg1, hI1⟩, hk1, hr1⟩ := hs0
        have hRO1 := hI1.1.1
        have hI1' : AtS I1 0 π a.1 := hI1.2.1
        have h61 := psh_6 a hA.2.1
        refine r_aload_n dX7_setIndent_33 rfl ?_
        refine q_getR fl_X7_12 dX7_setIndent_34 sf_0 (ro_0_0 hRO1) ?_
        refine q_getR fl_X7_56 dX7_setIndent_37 sf_1 (ro_1_3 hRO1) ?_
        refine r_iload_n dX7_setIndent_40 rfl ?_
        refine q_aald (t := 3) (by decide) dX7_setIndent_41 sf_2 (by omega) (ry0 hRO1 (i := s) (by omega)).1 ?_
        refine r_astore dX7_setIndent_42 (by decide) ?_
        dsimp only [lset]
        refine r_iload_n dX7_setIndent_44 rfl ?_
        refine r_ifne (tgt := 64) dX7_setIndent_45 (by decide) (by omega) (fun h45 => ?_) (fun h45 => ?_)
        · refine r_aload dX7_setIndent_64 rfl ?_
          refine q_getI fl_X7_65 dX7_setIndent_66 (ry0 hRO1 (i := s) (by omega)).2.1 ?_
          refine r_istore dX7_setIndent_69 (by decide) ?_
          dsimp only [lset]
          refine r_aload dX7_setIndent_71 rfl ?_
          refine r_iload_n dX7_setIndent_73 rfl ?_
          refine q_putI fl_X7_65 dX7_setIndent_74 (ry0 hRO1 (i := s) (by omega)).2.1 ?_
          refine r_iload dX7_setIndent_77 rfl ?_
          refine q_iretZR dX7_setIndent_79 rfl ?_
          have e : aSetIndent a s wh v = ((a.1.2.1 s.toNat).2.1, wS (psh a) (a.1.1, upY a.1.2.1 s.toNat ((a.1.2.1 s.toNat).1, v, (a.1.2.1 s.toNat).2.2), a.1.2.2)) := by
            unfold aSetIndent
            rw [if_pos (by omega), if_neg (by omega)]
          rw [e]
          have hys := at0_y hI1' (i := s) (by omega)
          refine ⟨hys.2.1, ⟨π, sg1, hI1.st h61 (at0_mk ((u2_n (Or.inl (by omega))).trans hI1'.1) ((u2_n (Or.inl (by omega))).trans hI1'.2.1) ((u2_n (Or.inl (by omega))).trans hI1'.2.2.1) (fun i hi => ?_) (fun i hi => ?_)) (fun x j h1 _ _ => u2_n (Or.inl (by omega)))⟩, fun x j h => by rw [u2_n (Or.inl (by omega))]; exact hk1 x j (Or.inl h)⟩
          · show AtY _ _ _ (upY a.1.2.1 s.toNat _ i)
            unfold upY
            by_cases hi2 : i = s.toNat
            · rw [if_pos hi2, hi2]
              exact ⟨(u2_n (Or.inr (by decide))).trans hys.1, u2_s, fun p q1 q2 => (u2_n (Or.inl (by omega))).trans (hys.2.2 p q1 q2)⟩
            · rw [if_neg hi2]
              have h9 := at0_y hI1' (i := i) (by omega)
              rw [Int.toNat_natCast] at h9
              exact h9.kept (fun j => u2_n (Or.inl (by omega))) (fun j => u2_n (Or.inl (by omega)))
          · have h9 := at0_p hI1' (i := i) (by omega)
            rw [Int.toNat_natCast] at h9
            exact h9.kept (fun j => u2_n (Or.inl (by omega))) (fun j => u2_n (Or.inl (by omega)))
        · refine r_aload dX7_setIndent_48 rfl ?_
          refine q_getI fl_X7_60 dX7_setIndent_50 (ry0 hRO1 (i := s) (by omega)).2.1 ?_
          refine r_istore dX7_setIndent_53 (by decide) ?_
          dsimp only [lset]
          refine r_aload dX7_setIndent_55 rfl ?_
          refine r_iload_n dX7_setIndent_57 rfl ?_
          refine q_putI fl_X7_60 dX7_setIndent_58 (ry0 hRO1 (i := s) (by omega)).2.1 ?_
          refine r_goto (tgt := 77) dX7_setIndent_61 (by decide) ?_
          refine r_iload dX7_setIndent_77 rfl ?_
          refine q_iretZR dX7_setIndent_79 rfl ?_
          have e : aSetIndent a s wh v = ((a.1.2.1 s.toNat).1, wS (psh a) (a.1.1, upY a.1.2.1 s.toNat (v, (a.1.2.1 s.toNat).2), a.1.2.2)) := by
            unfold aSetIndent
            rw [if_pos (by omega), if_pos (by omega)]
          rw [e]
          have hys := at0_y hI1' (i := s) (by omega)
          refine ⟨hys.1, ⟨π, sg1, hI1.st h61 (at0_mk ((u2_n (Or.inl (by omega))).trans hI1'.1) ((u2_n (Or.inl (by omega))).trans hI1'.2.1) ((u2_n (Or.inl (by omega))).trans hI1'.2.2.1) (fun i hi => ?_) (fun i hi => ?_)) (fun x j h1 _ _ => u2_n (Or.inl (by omega)))⟩, fun x j h => by rw [u2_n (Or.inl (by omega))]; exact hk1 x j (Or.inl h)⟩
          · show AtY _ _ _ (upY a.1.2.1 s.toNat _ i)
            unfold upY
            by_cases hi2 : i = s.toNat
            · rw [if_pos hi2, hi2]
              exact ⟨u2_s, (u2_n (Or.inr (by decide))).trans hys.2.1, fun p q1 q2 => (u2_n (Or.inl (by omega))).trans (hys.2.2 p q1 q2)⟩
            · rw [if_neg hi2]
              have h9 := at0_y hI1' (i := i) (by omega)
              rw [Int.toNat_natCast] at h9
              exact h9.kept (fun j => u2_n (Or.inl (by omega))) (fun j => u2_n (Or.inl (by omega)))
          · have h9 := at0_p hI1' (i := i) (by omega)
            rw [Int.toNat_natCast] at h9
            exact h9.kept (fun j => u2_n (Or.inl (by omega))) (fun j => u2_n (Or.inl (by omega)))
      · refine r_iconst dX7_setIndent_27 ?_
        refine q_iretZR dX7_setIndent_28 rfl ?_
        have e : aSetIndent a s wh v = (-1, a) := by
          unfold aSetIndent
          rw [if_neg (by omega)]
        rw [e]
        exact ⟨rfl, ⟨π, sg, hI⟩, fun _ _ _ => rfl⟩
theorem CI.clr {I : Mem} {R : RMem} {π sg : Nat → Nat} {a : AS} (h : CI I R π sg a) (h6 : a.2.1 ≤ 6) : CI (u2 I 0 4 0) R π sg (clr a) := by
  refine ⟨h.1, h.2.1.kept (fun i hi => (h.1.2.1.1 i hi).1) (fun x j h1 h2 => u2_n (Or.inl (by have : stB 0 = 1 := rfl; omega))), (u2_n (Or.inr (by decide))).trans h.2.2.1, fun j hj => ?_, u2_s, fun j h1 h2 => ?_⟩
  · have hj : j < a.2.1 := hj
    have hq := h.1.2.2.2.1 j (by omega)
    have hb := stB_in hq.2.1
    exact (h.2.2.2.1 j hj).kept (fun i hi => hi) (fun x z h1 h2 => u2_n (Or.inl (by omega)))
  · have h2 : j < ((0 : Nat) : Int) := h2
    omega
