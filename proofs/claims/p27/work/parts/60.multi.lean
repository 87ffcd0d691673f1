/-! rows of rows of numbers: how the machine makes them -/
section MZ
variable {E : CtlPost} {e : Env} {d : Bool} {acts : List Action} {s : State}
/-- one row of numbers or of references -/
theorem mz_row {cA cE : ClassId} {k : Class} {ty : FieldType} {n : Nat} {v : Value} (hk : s.vm.classes[cA]? = some k) (hkd : k.kind = .array cE ty) (h1 : n ≤ e.platform.arrayLengthLimit) (h2 : n * componentBytes ty ≤ e.platform.maxHeapBytes) (hv : fits ty v = true) (hd : v.isDefault = true) (r1 : s.heap.size + 1 ≤ e.platform.maxCells) (r2 : s.slotsUsed + n ≤ e.platform.maxSlots) {Q : Addr → Pre} (hq : Q s.heap.size d acts (s.pushCell (arrV cA n (fun _ => v)))) : wp (Jvm.newArray cA n v) Q E e d acts s := by
  have f1 : ∀ (i : Nat) (z : Value), (Array.replicate n v)[i]? = some z → s.fitsSlot cA .none i z = true := by
    intro i z hz
    have ez : v = z := by
      rw [Array.getElem?_replicate] at hz
      by_cases hi : i < n
      · rw [if_pos hi] at hz
        exact Option.some.inj hz
      · rw [if_neg hi] at hz
        cases hz
    subst ez
    simp [State.fitsSlot, State.slotType?, hk, hkd, hv]
  have f2 : allocActs (Array.replicate n v) s.heap.size acts = acts := by
    have : (Array.replicate n v).all (·.isDefault) = true := by
      rw [Array.all_replicate]
      split
      · rfl
      · exact hd
    unfold allocActs
    exact if_pos this
  have n1 : ¬ n > e.platform.arrayLengthLimit := by omega
  have n2 : ¬ n * componentBytes ty > e.platform.maxHeapBytes := by omega
  have n3 : ¬ n > e.platform.maxSlots := by omega
  rw [← arrV_new] at hq
  simp only [Jvm.newArray, Jvm.arrayFits, wp_bind', W.ask, W.ite, n1, n2, n3, if_false, wp_pure', W.theClass, hk, hkd, W.alloc, Option.some.injEq, exists_eq_left', Array.size_replicate, f2]
  exact ⟨by omega, r2, f1, hq⟩
abbrev mzO (cO : ClassId) (h i : Nat) : Cell := arrV cO 81 (fun j => if j < i then .ref (h + 1 + j) else .null)
theorem mzO_step (cO : ClassId) (h i : Nat) : (mzO cO h i).setSlot i (.ref (h + 1 + i)) = mzO cO h (i + 1) := by
  rw [arrV_store]
  congr 1
  funext j
  unfold updV
  by_cases e : j = i
  · rw [if_pos e, if_pos (by omega), e]
  · rw [if_neg e]
    show (if j < i then Value.ref (h + 1 + j) else .null) = _
    by_cases hj : j < i
    · rw [if_pos hj, if_pos (by omega)]
    · rw [if_neg hj, if_neg (by omega)]
abbrev mzI (cI : ClassId) : Cell := arrV cI 6 (fun _ => .int 0)
/-- the state when i of the rows stand -/
def mzS (T : State) (cO cI : ClassId) : Nat → State
  | 0 => T.pushCell (mzO cO T.heap.size 0)
  | i + 1 => ((mzS T cO cI i).pushCell (mzI cI)).setCell T.heap.size (mzO cO T.heap.size (i + 1))
theorem mzS_ok (T : State) (cO cI : ClassId) : ∀ i : Nat, (mzS T cO cI i).heap.size = T.heap.size + 1 + i ∧ (mzS T cO cI i).heap[T.heap.size]? = some (mzO cO T.heap.size i) ∧ (mzS T cO cI i).vm = T.vm ∧ (mzS T cO cI i).slotsUsed = T.slotsUsed + 81 + 6 * i ∧ (∀ q : Nat, q < T.heap.size → (mzS T cO cI i).heap[q]? = T.heap[q]?) ∧ ∀ j : Nat, j < i → (mzS T cO cI i).heap[T.heap.size + 1 + j]? = some (mzI cI)
  | 0 => by
    refine ⟨by simp [mzS], State.heap_pushCell_size _ _, rfl, ?_, fun q hq => State.heap_pushCell_of_lt _ _ hq, fun j hj => by omega⟩
    show T.slotsUsed + (mzO cO T.heap.size 0).slots.size = _
    rw [arrV_size]
  | i + 1 => by
    obtain ⟨a1, a2, a3, a4, a5, a6⟩ := mzS_ok T cO cI i
    have hlt : ∀ q : Nat, q < T.heap.size + 1 + i → ((mzS T cO cI i).pushCell (mzI cI)).heap[q]? = (mzS T cO cI i).heap[q]? := fun q hq => State.heap_pushCell_of_lt _ _ (by rw [a1]; exact hq)
    have hoth : ∀ q : Nat, q ≠ T.heap.size → (mzS T cO cI (i + 1)).heap[q]? = ((mzS T cO cI i).pushCell (mzI cI)).heap[q]? := fun q hq => State.heap_setCell_other (Ne.symm hq)
    refine ⟨?_, State.heap_setCell_self (by rw [hlt _ (by omega)]; exact a2), a3, ?_, fun q hq => ?_, fun j hj => ?_⟩
    · simp [mzS, State.setCell, a1]
      omega
    · show (mzS T cO cI i).slotsUsed + (mzI cI).slots.size = _
      rw [arrV_size, a4]
      omega
    · rw [hoth q (by omega), hlt q (by omega)]
      exact a5 q hq
    · rw [hoth _ (by omega)]
      by_cases hj2 : j < i
      · rw [hlt _ (by omega)]
        exact a6 j hj2
      · rw [show T.heap.size + 1 + j = (mzS T cO cI i).heap.size by rw [a1]; omega]
        exact State.heap_pushCell_size _ _
theorem mzS_top (T : State) (f : JFrame) (cO cI : ClassId) : ∀ i : Nat, mzS (T.setTop f) cO cI i = (mzS T cO cI i).setTop f
  | 0 => rfl
  | i + 1 => by
    show ((mzS (T.setTop f) cO cI i).pushCell (mzI cI)).setCell T.heap.size (mzO cO T.heap.size (i + 1)) = _
    rw [mzS_top T f cO cI i]
    rfl
/-- the inner rows, one at a time -/
theorem mz_in {cI cc : ClassId} {kC : Class} (hk : s.vm.classes[cI]? = some kC) (hkd : kC.kind = .array cc .int) (h1 : 6 ≤ e.platform.arrayLengthLimit) (h2 : 24 ≤ e.platform.maxHeapBytes) (r1 : s.heap.size + 1 ≤ e.platform.maxCells) (r2 : s.slotsUsed + 6 ≤ e.platform.maxSlots) {Q : Addr → Pre} (hq : Q s.heap.size d acts (s.pushCell (mzI cI))) : wp (multianewarray.make cI [6]) Q E e d acts s := by
  have hneg : ¬ ((6 : Int32) < 0) := by decide
  have hcl : (6 : Int32).toNatClampNeg = 6 := by decide
  rw [multianewarray.make]
  simp only [wp_bind', W.ite, hneg, if_false, wp_pure', W.theClass, hk, hkd, Option.some.injEq, exists_eq_left', hcl]
  exact mz_row hk hkd h1 (by show 6 * 4 ≤ _; omega) rfl rfl r1 r2 hq
theorem mz_out {cO cI cc : ClassId} {kA kC : Class} (hkA : s.vm.classes[cO]? = some kA) (hkdA : kA.kind = .array cI (.array .int)) (hk : s.vm.classes[cI]? = some kC) (hkd : kC.kind = .array cc .int) (h1 : 81 ≤ e.platform.arrayLengthLimit) (h2 : 81 * 4 ≤ e.platform.maxHeapBytes) (r1 : s.heap.size + 82 ≤ e.platform.maxCells) (r2 : s.slotsUsed + 567 ≤ e.platform.maxSlots) {Q : Addr → Pre} (hq : ∀ d' acts', Q s.heap.size d' acts' (mzS s cO cI 81)) : wp (multianewarray.make cO [81, 6]) Q E e d acts s := by
  have hneg : ¬ ((81 : Int32) < 0) := by decide
  have hcl : (81 : Int32).toNatClampNeg = 81 := by decide
  have hfind : ([(6 : Int32)].find? (· < 0)) = none := by decide
  have h0 : mzS s cO cI 0 = s.pushCell (arrV cO 81 (fun _ => .null)) := by
    show s.pushCell (mzO cO s.heap.size 0) = _
    congr 1
  rw [multianewarray.make]
  simp only [wp_bind', W.ite, hneg, if_false, wp_pure', W.theClass, hkA, hkdA, Option.some.injEq, exists_eq_left', hcl]
  refine mz_row hkA hkdA h1 (by show 81 * 4 ≤ _; exact h2) rfl rfl (by omega) (by omega) ?_
  simp only [hfind]
  rw [ite_self, wp_bind', Std.Legacy.Range.forIn_eq_forIn_range']
  show wp (forIn (List.range' 0 81 1) PUnit.unit _) _ E e d acts _
  rw [← h0]
  refine wp_forIn_inv (fun rest s' => ∃ i : Nat, i ≤ 81 ∧ rest = List.range' i (81 - i) ∧ s' = mzS s cO cI i) _ _ ⟨0, by omega, rfl, rfl⟩ ?_ ?_
  · rintro x rest s' d' acts' Q' ⟨i, hi, hl, rfl⟩ hnext
    have hlt : i < 81 := by
      by_cases h : i < 81
      · exact h
      · rw [show 81 - i = 0 by omega] at hl
        cases hl
    rw [show 81 - i = (80 - i) + 1 by omega, List.range'_succ] at hl
    obtain ⟨ex, er⟩ := List.cons.inj hl
    subst ex
    obtain ⟨a1, a2, a3, a4, a5, a6⟩ := mzS_ok s cO cI x
    simp only [wp_bind']
    refine mz_in (by rw [a3]; exact hk) hkd (by omega) (by omega) (by rw [a1]; omega) (by rw [a4]; omega) ?_
    simp only [wp_bind', W.writeLoc, wp_pure']
    have hlt0 : s.heap.size < (mzS s cO cI x).heap.size := by rw [a1]; omega
    refine ⟨mzO cO s.heap.size x, ?_, by simp [arrV], by rw [arrV_size]; exact hlt, ?_, hnext _ _ _ ⟨x + 1, by omega, ?_, ?_⟩⟩
    · rw [State.heap_pushCell_of_lt _ _ hlt0]
      exact a2
    · have hv : ((mzS s cO cI x).pushCell (mzI cI)).vm = s.vm := a3
      show State.fitsSlot _ cO .none x _ = true
      simp [State.fitsSlot, State.slotType?, a3, hkA, hkdA, fits]
    · rw [er]
      congr 1
      omega
    · rw [a1, show s.heap.size + 1 + x = s.heap.size + 1 + x from rfl, mzO_step]
      rfl
  · rintro s' d' acts' ⟨i, hi, hl, rfl⟩
    have hi81 : i = 81 := by
      by_cases h : i < 81
      · rw [show 81 - i = (80 - i) + 1 by omega, List.range'_succ] at hl
        cases hl
      · omega
    subst hi81
    simp only [wp_pure']
    exact hq _ _
end MZ
section MZW
variable {cc : ByteArray} {own : String} {nL : Nat} {rt : Option FieldType} {ini : Bool} {d mc ms : Nat} {Post : Option MV → Wd → Prop} {uc us pc : Nat} {ls : List (Option MV)} {st : List MV}
theorem mz_stand {p : Program} {l : Launch} {e : Env} {R : Room} {s : State} {m : MethodId} {args : Array Value} {below : List Frame} {meth : Method} {c : Code} {T : State} {locs : List Loc} {cells slots : Nat} (X : Stand p l e R s m args below meth c T locs cells slots) (cO cI : ClassId) : ∀ i : Nat, Stand p l e R s m args below meth c (mzS T cO cI i) (locs ++ (List.range i).map fun j => ⟨T.heap.size, j⟩) (cells + 1 + i) (slots + 81 + 6 * i)
  | 0 => by
    have h := X.pushed (mzO cO T.heap.size 0)
    rw [arrV_size] at h
    simpa [mzS] using h
  | i + 1 => by
    obtain ⟨a1, a2, a3, a4, a5, a6⟩ := mzS_ok T cO cI i
    have hlt0 : T.heap.size < (mzS T cO cI i).heap.size := by rw [a1]; omega
    have h := ((mz_stand X cO cI i).pushed (mzI cI)).stored (a := T.heap.size) (cell := mzO cO T.heap.size i) (by rw [State.heap_pushCell_of_lt _ _ hlt0]; exact a2) i (.ref (T.heap.size + 1 + i))
    rw [arrV_size, mzO_step] at h
    rw [List.range_succ, List.map_append, ← List.append_assoc, show cells + 1 + (i + 1) = cells + 1 + i + 1 by omega, show slots + 81 + 6 * (i + 1) = slots + 81 + 6 * i + 6 by omega]
    exact h
def mzR (R : RMem) : RMem := fun x j => if x = 46 ∧ 0 ≤ j ∧ j < 81 then some (47 + j.toNat) else R x j
theorem mz_world {D : va_G} {dA : Nat → ClassId} {b : Nat} {I : Mem} {R : RMem} {H H1 : Heap} (hR : Rp D dA b (46, ShF, I, R) H) (hc : ∀ (x : Nat) (j : Int), 46 ≤ x → I x j = 0 ∧ R x j = none) (z1 : H1.size = H.size + 82) (o1 : ∀ q : Nat, q < H.size → H1[q]? = H[q]?) (hO : H1[H.size]? = some (mzO (dA 5) H.size 81)) (hI : ∀ j : Nat, j < 81 → H1[H.size + 1 + j]? = some (mzI (dA 0))) : Rp D dA b (128, ShF, I, mzR R) H1 := by
  have hz : H.size = b + 46 := hR.2
  refine ⟨fun k q hq => ?_, by show H1.size = b + 128; omega⟩
  have hk : k < 128 := by
    have := (List.getElem?_eq_some_iff.mp hq).1
    simpa [wL] using this
  rw [wL_get (w := (128, ShF, I, mzR R)) hk] at hq
  cases hq
  by_cases h1 : k < 46
  · have e1 : wE b dA (128, ShF, I, mzR R) k = wE b dA (46, ShF, I, R) k := by
      have e : ∀ x : Int, mzR R k x = R k x := fun x => if_neg (by omega)
      unfold wE wF fV
      simp only [e]
    rw [e1]
    have h2 := hR.1 k _ (wL_get (w := (46, ShF, I, R)) h1)
    exact h2.kept (o1 _ h2.lt)
  · by_cases h2 : k = 46
    · subst h2
      have e9 : wE b dA (128, ShF, I, mzR R) 46 = .inl (dA 5, 81, .inr (.inr (.inr (.inr (fun j : Nat => (mzR R 46 j).map (fun q => b + q)))))) := by
        unfold wE
        rw [show (128, ShF, I, mzR R).2.1 46 = (105, 81) from sf_46.2, if_neg (by decide), if_neg (by decide)]
        rfl
      rw [e9]
      show H1[b + 46]? = some (vp_cell _ _)
      rw [vp_cell_q, ← hz, hO]
      refine congrArg some (congrArg (arrV (dA 5) 81) (funext fun j => ?_))
      unfold mzR
      by_cases hj : j < 81
      · rw [if_pos hj, if_pos (by omega)]
        show Value.ref (H.size + 1 + j) = Value.ref (b + (47 + ((j : Int)).toNat))
        rw [Int.toNat_natCast, show H.size + 1 + j = b + (47 + j) by omega]
      · rw [if_neg hj, if_neg (by omega), (hc 46 j (by omega)).2]
        rfl
    · have hs : ShF k = (100, 6) := by
        have := (sf_row (i := k - 47) (by omega)).2
        rw [show 47 + (k - 47) = k by omega] at this
        exact this
      have e9 : wE b dA (128, ShF, I, mzR R) k = .inl (dA 0, 6, .inl (fun j => Int32.ofInt (I k j))) := by
        unfold wE
        rw [show (128, ShF, I, mzR R).2.1 k = (100, 6) from hs, if_neg (by decide), if_pos (by decide)]
        rfl
      rw [e9]
      show H1[b + k]? = some (vp_cell _ _)
      have h3 := hI (k - 47) (by omega)
      rw [show H.size + 1 + (k - 47) = b + k by omega] at h3
      rw [h3, vp_cell_i]
      refine congrArg some (congrArg (arrV (dA 0) 6) (funext fun j => ?_))
      show Value.int 0 = Value.int (Int32.ofInt (I k j))
      rw [(hc k j (by omega)).1]
      rfl
theorem r_multi {idx : Nat} {I : Mem} {R : RMem} (hl : Cond.classLink own idx "[[I" ∈ lw_U) (hdg : decode cc pc = .ok (.multianewarray idx 2, 4)) (hf : uc + 82 ≤ mc ∧ us + 567 ≤ ms) (hc : ∀ (x : Nat) (j : Int), 46 ≤ x → I x j = 0 ∧ R x j = none) (k : WW cc own nL rt ini d mc ms Post (uc + 82) (us + 567) (pc + 4) ls (.inr (some 46) :: st) (128, ShF, I, mzR R)) : WW cc own nL rt ini d mc ms Post uc us pc ls (.inl 6 :: .inl 81 :: st) (46, ShF, I, R) := by
  intro l D dA b p e_ s m args below meth c H locs A hC hb0 hS hR hLs
  have hC' := hC
  obtain ⟨hx, hb, hml, hrt, hlk, hin2, hown, hts, hE⟩ := hC'
  intro T hT X
  subst hT
  have hpl : e_.platform.magicAccessors = ({} : Platform).magicAccessors := by rw [X.admits.platform]
  obtain ⟨kA, kC, c1, hkA, hkdA, hkC, hkdC⟩ := hE.2.2.2.2.2
  have hnm : s.vm.findClass "[[I" = some (dA 5) := (hE.1.2 5 _ rfl).2
  obtain ⟨c0, hfc0, hcl⟩ := Cond.classLink_spec hown (hts _ hl) e_.platform hpl
  cases hnm.symm.trans hfc0
  obtain ⟨hg₁, hwarm₁, hready₁⟩ := State.classEntry (e := e_) X.warmed hcl
  have hal : s.vm.Alike _ := hwarm₁.alike
  obtain ⟨kA1, hkA1, heA⟩ := hal.2.2 _ _ hkA
  obtain ⟨kC1, hkC1, heC⟩ := hal.2.2 _ _ hkC
  have X1 := X.noted hwarm₁
  generalize T.vm.noted m.cls idx (.cls (dA 5)) = vm₁ at hg₁ hwarm₁ hready₁ hal hkA1 hkC1 X1
  obtain ⟨hr1, hr2⟩ := X.roomAbove (a := 82) (b := 567) (by show uc + 82 ≤ mc; exact hf.1) (by show us + 567 ≤ ms; exact hf.2)
  have X2 := mz_stand X1 (dA 5) (dA 0) 81
  obtain ⟨a1, a2, a3, a4, a5, a6⟩ := mzS_ok (T.setVm vm₁) (dA 5) (dA 0) 81
  have hz : T.heap.size = b + 46 := hR.2
  have hR1 : Rp D dA b (128, ShF, I, mzR R) (mzS (T.setVm vm₁) (dA 5) (dA 0) 81).heap := mz_world hR hc a1 a5 a2 a6
  have hS1 : va_S (fun q => b ≤ q) s.heap (mzS (T.setVm vm₁) (dA 5) (dA 0) 81).heap (locs ++ (List.range 81).map fun j => ⟨(T.setVm vm₁).heap.size, j⟩) := by
    refine ⟨Nat.le_trans hS.1 (by rw [a1]; show T.heap.size ≤ T.heap.size + 1 + 81; omega), fun q h1 h2 => ?_, fun q hq => ?_⟩
    · rw [a5 q (Nat.lt_of_lt_of_le h1 hS.1)]
      exact hS.2.1 q h1 h2
    · rcases List.mem_append.mp hq with h | h
      · exact hS.2.2 q h
      · obtain ⟨j, -, rfl⟩ := List.mem_map.mp h
        show b ≤ T.heap.size
        omega
  obtain ⟨t, s1, q1⟩ := k l D dA b p e_ s m args below meth c _ _ A hC hb0 hS1 hR1 hLs _ rfl X2
  refine ⟨t, ?_, q1⟩
  have l1 : 81 ≤ e_.platform.arrayLengthLimit := by rw [Launch.admits_arrayLengthLimit X.admits]; decide
  have l2 : 81 * 4 ≤ e_.platform.maxHeapBytes := by rw [Launch.admits_maxHeapBytes X.admits]; decide
  have hdg' : decode c.code pc = .ok (.multianewarray idx 2, 4) := by rw [hb]; exact hdg
  jvm_step X.here [hx, hdg']
  simp only [multianewarray.sem, wp_bind', W.resolveClassAt_links (State.method?_setTop (F0 m pc A (tv b (.inl 6) :: tv b (.inl 81) :: st.map (tv b))) X.here.top) hg₁]
  rw [W.popN, if_neg (by decide)]
  refine ⟨_, State.topJava?_setTop' (s := T.setVm vm₁) _ X.here.top, [.int 81, .int 6], st.map (tv b), rfl, rfl, ?_⟩
  simp only [List.mapM_cons, List.mapM_nil, wp_bind', wp_pure']
  refine mz_out (kA := kA1) (kC := kC1) (cc := c1) hkA1 (by rw [heA]; exact hkdA) hkC1 (by rw [heC]; exact hkdC) l1 l2 (by show T.heap.size + 82 ≤ _; omega) (by show T.slotsUsed + 567 ≤ _; omega) (fun d' acts' => ?_)
  have eS : ((T.setTop (F0 m pc A (tv b (.inl 6) :: tv b (.inl 81) :: st.map (tv b)))).setVm vm₁).setTop (F0 m pc A (st.map (tv b))) = (T.setVm vm₁).setTop (F0 m pc A (st.map (tv b))) := by
    show ((T.setVm vm₁).setTop _).setTop _ = _
    rw [State.setTop_setTop]
  have eS2 := (congrArg (fun S : State => mzS S (dA 5) (dA 0) 81) eS).trans (mzS_top (T.setVm vm₁) (F0 m pc A (st.map (tv b))) (dA 5) (dA 0) 81)
  simp only [wp_bind', W.mark, W.pushRef]
  refine ⟨F0 m pc A (st.map (tv b)), ?_, ?_⟩
  · refine (congrArg State.topJava? eS2).trans ?_
    exact State.topJava?_setTop' _ X2.here.top
  · intro acts
    have eS3 := congrArg (fun S : State => S.setTop (F0 m pc A (.ref T.heap.size :: st.map (tv b)))) (eS2)
    simp only [State.setTop_setTop] at eS3
    refine Eq.mp (congrArg (fun S : State => Steps p.tables e_ below (afterInstr e_ 4 (Res.ok () S acts)).fst t) eS3.symm) ?_
    simp [jvm, X2.here.top]
    rw [hz]
    exact s1
end MZW
