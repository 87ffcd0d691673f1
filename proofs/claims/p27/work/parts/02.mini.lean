/-! A small machine over the kit: values are whole numbers or names of cells; a world is a size, the shapes, the numbers and the references -/
abbrev MV : Type := Int ⊕ Option Nat
abbrev Wd : Type := Nat × (Nat → Nat × Nat) × (Nat → Int → Int) × (Nat → Int → Option Nat)
def tv (b : Nat) (v : MV) : Value := match v with
  | .inl z => .int (Int32.ofInt z)
  | .inr r => va_rf (r.map (fun k => b + k))
abbrev cls9 : List vw_C := [(RX0, TX0, 12), (RX1, TX1, 3), (RX2, TX2, 6), (RX3, TX3, 5), (RX4, TX4, 4), (RX5, TX5, 3), (RX6, TX6, 6), (RX7, TX7, 7)]
def tyC (ci : Nat) : Nat → FieldType := match ci with
  | 0 => tyX0
  | 1 => tyX1
  | 2 => tyX2
  | 3 => tyX3
  | 4 => tyX4
  | 5 => tyX5
  | 6 => tyX6
  | _ => tyX7
def nF (ci : Nat) : Nat := match ci with
  | 0 => 12
  | 1 => 3
  | 2 => 6
  | 3 => 5
  | 4 => 4
  | 5 => 3
  | 6 => 6
  | _ => 7
def isI (t : FieldType) : Bool := match t with
  | .int => true
  | _ => false
def fV (b : Nat) (w : Wd) (k ci j : Nat) : Value := if isI (tyC ci j) = true then .int (Int32.ofInt (w.2.2.1 k j)) else va_rf ((w.2.2.2 k j).map (fun q => b + q))
def wF (b : Nat) (w : Wd) (k ci : Nat) : List Value := (List.range (nF ci)).map (fun j => fV b w k ci j)
def wE (b : Nat) (dA : Nat → ClassId) (w : Wd) (k : Nat) : va_E :=
  if (w.2.1 k).1 < 100 then .inr ((w.2.1 k).1, wF b w k (w.2.1 k).1)
  else if (w.2.1 k).1 < 102 then .inl (dA ((w.2.1 k).1 - 100), (w.2.1 k).2, .inl (fun j => Int32.ofInt (w.2.2.1 k j)))
  else .inl (dA ((w.2.1 k).1 - 100), (w.2.1 k).2, .inr (.inr (.inr (.inr (fun j => (w.2.2.2 k j).map (fun q => b + q))))))
def wL (b : Nat) (dA : Nat → ClassId) (w : Wd) : va_W := (List.range w.1).map (fun k => (b + k, wE b dA w k))
def Rp (D : va_G) (dA : Nat → ClassId) (b : Nat) (w : Wd) (H : Heap) : Prop := va_P D cls9 (wL b dA w) H ∧ H.size = b + w.1
abbrev tysA (dA : Nat → ClassId) : List (ClassId × FieldType) := [(dA 0, .int), (dA 1, .int), (dA 2, .object RX3), (dA 3, .object RX5), (dA 4, .object RX1), (dA 5, .array .int)]
def nestT : List (String × Nat × MethodName × String) := [(RX3, 30, yX5_init, RX7), (RX3, 31, yX1_init, RX7), (RX7, 26, yX4_init, RX7), (RX4, 11, yX5_init, RX7), (RX7, 33, yX0_init, RX7), (RX0, 11, yX6_init, RX7), (RX0, 20, yX2_init, RX7), (RX6, 50, yX7_isWithin, RX7), (RX0, 87, yX7_multipleBehind, RX7), (RX2, 31, yX7_isWithin, RX7), (RX5, 23, yX7_isWithin, RX7), (RX1, 19, yX7_isWithin, RX7)]
/-- the class of the rows of rows of numbers: what its members are -/
def gr_AI (dA : Nat → ClassId) (s : State) : Prop := ∃ (kA kC : Class) (cc : ClassId), s.vm.classes[dA 5]? = some kA ∧ kA.kind = .array (dA 0) (.array .int) ∧ s.vm.classes[dA 0]? = some kC ∧ kC.kind = .array cc .int
theorem gr_AI.moved {dA : Nat → ClassId} {s U : State} (hvm : s.vm.Alike U.vm) (h : gr_AI dA s) : gr_AI dA U := by
  obtain ⟨kA, kC, cc, h1, h2, h3, h4⟩ := h
  obtain ⟨k1, hk1, e1⟩ := hvm.2.2 _ _ h1
  obtain ⟨k2, hk2, e2⟩ := hvm.2.2 _ _ h3
  exact ⟨k1, k2, cc, hk1, by rw [e1]; exact h2, hk2, by rw [e2]; exact h4⟩
def EnvK (D : va_G) (dA : Nat → ClassId) (s : State) : Prop := va_K D cls9 (tysA dA) s ∧ (∀ q ∈ nestT, va_Nw (.methodLinkNest q.1 q.2.1 q.2.2.1 q.2.2.2) s) ∧ va_AO RX3 s ∧ va_AO RX5 s ∧ va_AO RX1 s ∧ gr_AI dA s
theorem EnvK.moved {D : va_G} {dA : Nat → ClassId} {s U : State} (hW : s.WarmedH U.vm) (h : EnvK D dA s) : EnvK D dA U :=
  ⟨va_K.moved hW.alike h.1, fun q hq => va_Nw.warmM hW (h.2.1 q hq), va_AO.moved hW.alike h.2.2.1, va_AO.moved hW.alike h.2.2.2.1, va_AO.moved hW.alike h.2.2.2.2.1, gr_AI.moved hW.alike h.2.2.2.2.2⟩
def lw_U : List Cond := lw_tbl.filter goodWord
theorem lw_U_good : ∀ w ∈ lw_U, (w.onTables && w.keeps) = true ∨ ∃ ty, w = .arrayClass ty := fun w hw => good_of_word (List.mem_filter.mp hw).2
def rmD (d mc ms : Nat) : Room := { frames := d, cells := mc, slots := ms, locals := 40 * d }
def QP (D : va_G) (dA : Nat → ClassId) (b : Nat) (Post : Option MV → Wd → Prop) : Array Value → State → Outcome → State → Prop := fun _ st oc t =>
  (∃ (r : Option MV) (w' : Wd), oc = .returned (r.map (tv b)) ∧ Post r w' ∧ Rp D dA b w' t.heap) ∧ va_F (fun q => b ≤ q) st t
def CC (d mc ms : Nat) (y : MethodName) (cc : ByteArray) (nL : Nat) (rt : Option FieldType) (as : List MV) (w : Wd) (Post : Option MV → Wd → Prop) : Prop :=
  ∀ (l : Launch) (D : va_G) (dA : Nat → ClassId) (b : Nat), Met l y (Cond.code y cc nL rt :: lw_U) (rmD d mc ms) (va_Pc (as.map (tv b)) (fun U => Rp D dA b w U.heap ∧ EnvK D dA U)) (QP D dA b Post) mc ms (fun q => b ≤ q)
def Cx (cc : ByteArray) (own : String) (nL : Nat) (rt : Option FieldType) (ini : Bool) (D : va_G) (dA : Nat → ClassId) (p : Program) (s : State) (m : MethodId) (args : Array Value) (meth : Method) (c : Code) : Prop :=
  p.tables.exec = Jvm.exec ∧ c.code = cc ∧ c.maxLocals = nL ∧ meth.sig.returnType = rt ∧ meth.locks = false ∧ (ini = true → meth.name = "<init>") ∧ s.vm.findClass own = some m.cls ∧ (∀ w ∈ lw_U, w.before args s = true) ∧ EnvK D dA s
def lg : List (Option MV) → Nat → Option MV
  | [], _ => none
  | a :: _, 0 => a
  | _ :: l, n + 1 => lg l n
def lset : List (Option MV) → Nat → MV → List (Option MV)
  | [], _, _ => []
  | _ :: l, 0, v => some v :: l
  | a :: l, n + 1, v => a :: lset l n v
def LsOk (b nL : Nat) (ls : List (Option MV)) (A : Array Slot) : Prop := A.size = nL ∧ lv_wf A ∧ ∀ (i : Nat) (v : MV), lg ls i = some v → A[i]? = some (.val (tv b v))
def WW (cc : ByteArray) (own : String) (nL : Nat) (rt : Option FieldType) (ini : Bool) (d mc ms : Nat) (Post : Option MV → Wd → Prop) (uc us pc : Nat) (ls : List (Option MV)) (st : List MV) (w : Wd) : Prop :=
  ∀ (l : Launch) (D : va_G) (dA : Nat → ClassId) (b : Nat) (p : Program) (e : Env) (s : State) (m : MethodId) (args : Array Value) (below : List Frame) (meth : Method) (c : Code) (H : Heap) (locs : List Loc) (A : Array Slot),
    Cx cc own nL rt ini D dA p s m args meth c → b ≤ s.heap.size → va_S (fun q => b ≤ q) s.heap H locs → Rp D dA b w H → LsOk b nL ls A →
    W p l e (rmD d mc ms) s m args below meth c H locs uc us (MQ below (QP D dA b Post) args s mc ms (fun q => b ≤ q)) (F0 m pc A (st.map (tv b)))
/-! numbers -/
theorem i32_ti {z : Int} (h : -2147483648 ≤ z ∧ z ≤ 2147483647) : (Int32.ofInt z).toInt = z := Int32.toInt_ofInt_of_le (by omega) (by omega)
theorem i32_lt {a b : Int} (ha : -2147483648 ≤ a ∧ a ≤ 2147483647) (hb : -2147483648 ≤ b ∧ b ≤ 2147483647) : Int32.ofInt a < Int32.ofInt b ↔ a < b := by
  rw [Int32.lt_iff_toInt_lt, i32_ti ha, i32_ti hb]
theorem i32_le {a b : Int} (ha : -2147483648 ≤ a ∧ a ≤ 2147483647) (hb : -2147483648 ≤ b ∧ b ≤ 2147483647) : Int32.ofInt a ≤ Int32.ofInt b ↔ a ≤ b := by
  rw [Int32.le_iff_toInt_le, i32_ti ha, i32_ti hb]
theorem i32_eq {a b : Int} (ha : -2147483648 ≤ a ∧ a ≤ 2147483647) (hb : -2147483648 ≤ b ∧ b ≤ 2147483647) : Int32.ofInt a = Int32.ofInt b ↔ a = b := by
  rw [← Int32.toInt_inj, i32_ti ha, i32_ti hb]
theorem i32_cl {z : Int} (h : 0 ≤ z ∧ z ≤ 2147483647) : (Int32.ofInt z).toNatClampNeg = z.toNat := by
  rw [← Int32.toNat_toInt, i32_ti (by omega)]
theorem i32_in {z : Int} {n : Nat} (h : 0 ≤ z ∧ z < n) (hn : n ≤ 2147483647) : vp_in (Int32.ofInt z) n := by
  rw [vp_in_iff, i32_ti (by omega)]
  exact h
theorem i32_div {a b : Int} (ha : 0 ≤ a ∧ a ≤ 2147483647) (hb : 0 < b ∧ b ≤ 2147483647) : Int32.ofInt a / Int32.ofInt b = Int32.ofInt (a / b) := by
  rw [← Int32.toInt_inj, Int32.toInt_div, i32_ti (by omega), i32_ti (by omega), Int.tdiv_eq_ediv_of_nonneg ha.1]
  have h1 : 0 ≤ a / b := Int.ediv_nonneg ha.1 (by omega)
  have h2 : a / b ≤ a := Int.ediv_le_self b ha.1
  rw [i32_ti (by omega)]
  exact Int.bmod_eq_of_le (by omega) (by omega)
theorem i32_rem {a b : Int} (ha : 0 ≤ a ∧ a ≤ 2147483647) (hb : 0 < b ∧ b ≤ 2147483647) : Int32.ofInt a - Int32.ofInt a / Int32.ofInt b * Int32.ofInt b = Int32.ofInt (a % b) := by
  rw [i32_div ha hb, ← Int32.ofInt_mul, ← Int32.ofInt_sub]
  congr 1
  rw [Int.emod_def, Int.mul_comm]
theorem i32_bip {n : Int} (h : -128 ≤ n ∧ n ≤ 127) : (Int8.ofInt n).toInt32 = Int32.ofInt n := by
  rw [← Int32.toInt_inj, Int8.toInt_toInt32, Int8.toInt_ofInt_of_le (by omega) (by omega), i32_ti (by omega)]
theorem i32_sip {n : Int} (h : -32768 ≤ n ∧ n ≤ 32767) : (Int16.ofInt n).toInt32 = Int32.ofInt n := by
  rw [← Int32.toInt_inj, Int16.toInt_toInt32, Int16.toInt_ofInt_of_le (by omega) (by omega), i32_ti (by omega)]
theorem i32_0 : Int32.ofInt 0 = 0 := rfl
theorem i32_i2b (z : Int) : (Int32.ofInt z).toInt8.toInt32 = Int32.ofInt (z.bmod 256) := by
  rw [Int32.toInt8_ofInt, ← Int32.toInt_inj, Int8.toInt_toInt32, Int8.toInt_ofInt]
  have h1 := Int.bmod_lt (x := z) (m := 256) (by omega)
  have h2 := Int.le_bmod (x := z) (m := 256) (by omega)
  rw [i32_ti (by omega)]
theorem i32_nb {z : Int} (h : -128 ≤ z ∧ z ≤ 127) : vp_nar .byte (Int32.ofInt z) = Int32.ofInt z := by
  rw [vp_nar_byte, i32_i2b]
  congr 1
  exact Int.bmod_eq_of_le (by omega) (by omega)
/-! the world's rows -/
def u2 {α : Type} (f : Nat → Int → α) (a : Nat) (j : Int) (z : α) : Nat → Int → α := fun a' j' => if a' = a ∧ j' = j then z else f a' j'
theorem u2_s {α : Type} {f : Nat → Int → α} {a : Nat} {j : Int} {z : α} : u2 f a j z a j = z := if_pos ⟨rfl, rfl⟩
theorem u2_n {α : Type} {f : Nat → Int → α} {a a' : Nat} {j j' : Int} {z : α} (h : a' ≠ a ∨ j' ≠ j) : u2 f a j z a' j' = f a' j' := if_neg (fun q => h.elim (fun h => h q.1) (fun h => h q.2))
abbrev setI (w : Wd) (a : Nat) (j z : Int) : Wd := (w.1, w.2.1, u2 w.2.2.1 a j z, w.2.2.2)
abbrev setR (w : Wd) (a : Nat) (j : Int) (z : Option Nat) : Wd := (w.1, w.2.1, w.2.2.1, u2 w.2.2.2 a j z)
theorem wL_get {b : Nat} {dA : Nat → ClassId} {w : Wd} {k : Nat} (h : k < w.1) : (wL b dA w)[k]? = some (b + k, wE b dA w k) := by
  unfold wL
  rw [List.getElem?_map, List.getElem?_range h]
  rfl
theorem wL_obj {b : Nat} {dA : Nat → ClassId} {w : Wd} {k ci n : Nat} (h : k < w.1) (hs : w.2.1 k = (ci, n)) (hc : ci < 100) : (wL b dA w)[k]? = some (b + k, .inr (ci, wF b w k ci)) := by
  rw [wL_get h]
  unfold wE
  rw [hs, if_pos hc]
theorem wL_int {b : Nat} {dA : Nat → ClassId} {w : Wd} {k t n : Nat} (h : k < w.1) (hs : w.2.1 k = (100 + t, n)) (hc : t < 2) : (wL b dA w)[k]? = some (b + k, .inl (dA t, n, .inl (fun j => Int32.ofInt (w.2.2.1 k j)))) := by
  rw [wL_get h]
  unfold wE
  rw [hs, if_neg (by omega), if_pos (by show 100 + t < 102; omega)]
  show some (b + k, Sum.inl (dA (100 + t - 100), _)) = _
  rw [Nat.add_sub_cancel_left]
theorem wL_ref {b : Nat} {dA : Nat → ClassId} {w : Wd} {k t n : Nat} (h : k < w.1) (hs : w.2.1 k = (100 + t, n)) (hc : 2 ≤ t) : (wL b dA w)[k]? = some (b + k, .inl (dA t, n, .inr (.inr (.inr (.inr (fun j => (w.2.2.2 k j).map (fun q => b + q))))))) := by
  rw [wL_get h]
  unfold wE
  rw [hs, if_neg (by show ¬ 100 + t < 100; omega), if_neg (by show ¬ 100 + t < 102; omega)]
  show some (b + k, Sum.inl (dA (100 + t - 100), _)) = _
  rw [Nat.add_sub_cancel_left]
theorem wL_D (b : Nat) (dA : Nat → ClassId) (w : Wd) : va_D (fun q => b ≤ q) (wL b dA w) := by
  have key : ∀ (k : Nat) (q : Nat × va_E), (wL b dA w)[k]? = some q → q.1 = b + k := by
    intro k q h
    have hk : k < w.1 := by
      have := (List.getElem?_eq_some_iff.mp h).1
      simpa [wL] using this
    rw [wL_get hk] at h
    cases h
    rfl
  refine ⟨fun i j p q hi hj h => ?_, fun k q h => ?_⟩
  · have h1 := key i p hi
    have h2 := key j q hj
    omega
  · have h1 := key k q h
    show b ≤ q.1
    omega
/-- the world with one cell's numbers or references changed -/
theorem wL_set {b : Nat} {dA : Nat → ClassId} {w w' : Wd} {k : Nat} {e : va_E} (hk : k < w.1) (h1 : w'.1 = w.1) (he : wE b dA w' k = e) (hn : ∀ q, q ≠ k → wE b dA w' q = wE b dA w q) : (wL b dA w).set k (b + k, e) = wL b dA w' := by
  apply List.ext_getElem?
  intro q
  by_cases hq : q < w.1
  · rw [wL_get (w := w') (by rw [h1]; exact hq)]
    by_cases hqk : q = k
    · subst hqk
      rw [List.getElem?_set_self (by simpa [wL] using hq), he]
    · rw [List.getElem?_set_ne (Ne.symm hqk), wL_get hq, hn q hqk]
  · rw [List.getElem?_eq_none (by simp [wL]; omega), List.getElem?_eq_none (by simp [wL, h1]; omega)]
theorem wE_setI {b : Nat} {dA : Nat → ClassId} {w : Wd} {a : Nat} {j z : Int} (q : Nat) (h : q ≠ a) : wE b dA (setI w a j z) q = wE b dA w q := by
  have e : ∀ x : Int, u2 w.2.2.1 a j z q x = w.2.2.1 q x := fun x => u2_n (Or.inl h)
  unfold wE wF fV setI
  simp only [e]
theorem wE_setR {b : Nat} {dA : Nat → ClassId} {w : Wd} {a : Nat} {j : Int} {z : Option Nat} (q : Nat) (h : q ≠ a) : wE b dA (setR w a j z) q = wE b dA w q := by
  have e : ∀ x : Int, u2 w.2.2.2 a j z q x = w.2.2.2 q x := fun x => u2_n (Or.inl h)
  unfold wE wF fV setR
  simp only [e]
theorem wF_get {b : Nat} {w : Wd} {k ci j : Nat} (h : j < nF ci) : (wF b w k ci)[j]? = some (fV b w k ci j) := by
  unfold wF
  rw [List.getElem?_map, List.getElem?_range h]
  rfl
theorem wF_setI {b : Nat} {w : Wd} {a ci j : Nat} {z : Int} (hj : j < nF ci) (hi : isI (tyC ci j) = true) : wF b (setI w a j z) a ci = (wF b w a ci).set j (.int (Int32.ofInt z)) := by
  apply List.ext_getElem?
  intro q
  by_cases hq : q < nF ci
  · rw [wF_get hq]
    by_cases hqj : q = j
    · subst hqj
      rw [List.getElem?_set_self (by simpa [wF] using hq)]
      unfold fV
      rw [if_pos hi]
      show some (Value.int (Int32.ofInt (u2 w.2.2.1 a (q : Int) z a (q : Int)))) = _
      rw [u2_s]
    · rw [List.getElem?_set_ne (Ne.symm hqj), wF_get hq]
      unfold fV
      have e : u2 w.2.2.1 a (j : Int) z a (q : Int) = w.2.2.1 a (q : Int) := u2_n (Or.inr (by omega))
      show some (if _ then Value.int (Int32.ofInt (u2 w.2.2.1 a (j : Int) z a (q : Int))) else _) = _
      rw [e]
  · rw [List.getElem?_eq_none (by simp [wF]; omega), List.getElem?_eq_none (by simp [wF]; omega)]
theorem wF_setR {b : Nat} {w : Wd} {a ci j : Nat} {z : Option Nat} (hj : j < nF ci) (hi : isI (tyC ci j) = false) : wF b (setR w a j z) a ci = (wF b w a ci).set j (va_rf (z.map (fun q => b + q))) := by
  apply List.ext_getElem?
  intro q
  by_cases hq : q < nF ci
  · rw [wF_get hq]
    by_cases hqj : q = j
    · subst hqj
      rw [List.getElem?_set_self (by simpa [wF] using hq)]
      unfold fV
      rw [if_neg (by rw [hi]; decide)]
      show some (va_rf ((u2 w.2.2.2 a (q : Int) z a (q : Int)).map _)) = _
      rw [u2_s]
    · rw [List.getElem?_set_ne (Ne.symm hqj), wF_get hq]
      unfold fV
      have e : u2 w.2.2.2 a (j : Int) z a (q : Int) = w.2.2.2 a (q : Int) := u2_n (Or.inr (by omega))
      show some (if _ then _ else va_rf ((u2 w.2.2.2 a (j : Int) z a (q : Int)).map _)) = _
      rw [e]
  · rw [List.getElem?_eq_none (by simp [wF]; omega), List.getElem?_eq_none (by simp [wF]; omega)]
/-! locals -/
theorem lg_set {ls : List (Option MV)} {i : Nat} {v : MV} {j : Nat} {x : MV} (h : lg (lset ls i v) j = some x) : (j = i ∧ x = v) ∨ (j ≠ i ∧ lg ls j = some x) := by
  induction ls generalizing i j with
  | nil => simp [lset, lg] at h
  | cons a l ih =>
    cases i with
    | zero =>
      cases j with
      | zero => simp [lset, lg] at h; exact Or.inl ⟨rfl, h.symm⟩
      | succ j => simp [lset, lg] at h; exact Or.inr ⟨by omega, h⟩
    | succ i =>
      cases j with
      | zero => simp [lset, lg] at h; exact Or.inr ⟨by omega, h⟩
      | succ j =>
        simp only [lset, lg] at h
        rcases ih h with ⟨h1, h2⟩ | ⟨h1, h2⟩
        · exact Or.inl ⟨by omega, h2⟩
        · exact Or.inr ⟨by omega, h2⟩
def lvL (b : Nat) (ls : List (Option MV)) : List (Nat × Value) := (List.range ls.length).filterMap (fun i => (lg ls i).map (fun v => (i, tv b v)))
theorem lg_lt {ls : List (Option MV)} {i : Nat} {v : MV} (h : lg ls i = some v) : i < ls.length := by
  induction ls generalizing i with
  | nil => simp [lg] at h
  | cons a l ih =>
    cases i with
    | zero => simp
    | succ i =>
      have := ih (i := i) h
      simp
      omega
theorem lvL_in {b : Nat} {ls : List (Option MV)} {i : Nat} {v : MV} (h : lg ls i = some v) : (i, tv b v) ∈ lvL b ls := by
  unfold lvL
  exact List.mem_filterMap.mpr ⟨i, List.mem_range.mpr (lg_lt h), by rw [h]; rfl⟩
theorem lvL_has {b nL : Nat} {ls : List (Option MV)} {A : Array Slot} (h : LsOk b nL ls A) : lv_has A nL (lvL b ls) := by
  refine ⟨h.1, h.2.1, fun q hq => ?_⟩
  obtain ⟨i, -, hi⟩ := List.mem_filterMap.mp hq
  cases hv : lg ls i with
  | none => rw [hv] at hi; cases hi
  | some v =>
    rw [hv] at hi
    cases hi
    exact h.2.2 i v hv
theorem tv_cat (b : Nat) (v : MV) : (tv b v).category = 1 := by
  obtain z | r := v
  · rfl
  · cases r <;> rfl
theorem lsOk_set {b nL i : Nat} {ls : List (Option MV)} {v : MV} {x : Value} {A' : Array Slot} (hx : tv b v = x) (h : lv_has A' nL ((i, x) :: (lvL b ls).filter (fun q => !(q.1 == i) && !(q.1 + 1 == i && q.2.category == 2)))) : LsOk b nL (lset ls i v) A' := by
  refine ⟨h.1, h.2.1, fun j y hy => ?_⟩
  rcases lg_set hy with ⟨rfl, rfl⟩ | ⟨h1, h2⟩
  · rw [hx]
    exact h.2.2 (j, x) List.mem_cons_self
  · refine h.2.2 (j, tv b y) (List.mem_cons_of_mem _ (List.mem_filter.mpr ⟨lvL_in h2, ?_⟩))
    simp [h1, tv_cat]
