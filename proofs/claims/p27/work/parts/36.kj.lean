theorem rgx (x : Int32) : -2147483648 ≤ x.toInt ∧ x.toInt ≤ 2147483647 := by
  have h1 := Int32.le_toInt x
  have h2 := Int32.toInt_lt x
  omega
/-! a second machine, for the law's own methods: the kit's values (longs too), locals by place -/
abbrev vi (z : Int) : Value := .int (Int32.ofInt z)
def KJ (p : Program) (l : Launch) (e_ : Env) (R : Room) (s : State) (m : MethodId) (args : Array Value) (below : List Frame) (meth : Method) (c : Code) (b : Nat) (D : va_G) (dA : Nat → ClassId) (nL cells slots : Nat) (Q : State → Prop) (pc : Nat) (lv : List (Nat × Value)) (st : List Value) (w : Wd) : Prop :=
  ∀ (H : Heap) (locs : List Loc) (ls : Array Slot), va_S (fun q => b ≤ q) s.heap H locs → Rp D dA b w H → lv_has ls nL lv → W p l e_ R s m args below meth c H locs cells slots Q (F0 m pc ls st)
def KOk (cc : ByteArray) (own : String) (nL d b : Nat) (J : Nat → List (Nat × Value) → List Value → Wd → Prop) : Prop :=
  ∃ (p : Program) (l : Launch) (e_ : Env) (R : Room) (s : State) (m : MethodId) (args : Array Value) (below : List Frame) (meth : Method) (c : Code) (D : va_G) (dA : Nat → ClassId) (cells slots : Nat) (Q : State → Prop),
    J = KJ p l e_ R s m args below meth c b D dA nL cells slots Q ∧ p.tables.exec = Jvm.exec ∧ c.code = cc ∧ c.maxLocals = nL ∧ s.vm.findClass own = some m.cls ∧ (∀ q ∈ lw_U, q.before args s = true) ∧ EnvK D dA s ∧ (∀ d' : Nat, d' + 1 ≤ d → d' + 1 ≤ R.frames ∧ 39 + 40 * d' ≤ R.locals) ∧ cells ≤ R.cells ∧ slots ≤ R.slots
theorem i64_c {z : Int} : (Int32.ofInt z).toInt64 = i6 z := rfl
theorem lcmp_z {x y : Int64} : (lg_cmp x y).toInt = 0 ↔ x = y := by
  rw [← lg_cmp_eq x y, ← Int32.toInt_inj]
  rfl
section KR
variable {cc : ByteArray} {own : String} {nL d b : Nat} {J : Nat → List (Nat × Value) → List Value → Wd → Prop} {pc : Nat} {lv : List (Nat × Value)} {st : List Value} {w : Wd}
theorem j_iconst (hJ : KOk cc own nL d b J) {n : Int} (hdg : decode cc pc = .ok (.iconst n, 1))  (k : J (pc + 1) lv (vi n :: st) w) : J pc lv (st) w := by
  obtain ⟨p, l, e_, R, s, m, args, below, meth, c, D, dA, cells, slots, Q, rfl, hx, hb, hml, hown, hts, hE, hd, hcs⟩ := hJ
  intro H locs ls hS hR hl
  exact lv_iconst hx hb hdg rfl (k H locs ls hS hR hl)
theorem j_bipush (hJ : KOk cc own nL d b J) {n : Int} (hdg : decode cc pc = .ok (.bipush n, 2)) (hn : -128 ≤ n ∧ n ≤ 127) (k : J (pc + 2) lv (vi n :: st) w) : J pc lv (st) w := by
  obtain ⟨p, l, e_, R, s, m, args, below, meth, c, D, dA, cells, slots, Q, rfl, hx, hb, hml, hown, hts, hE, hd, hcs⟩ := hJ
  intro H locs ls hS hR hl
  exact lv_bipush hx hb hdg (i32_bip hn) (k H locs ls hS hR hl)
theorem j_iload_n (hJ : KOk cc own nL d b J) {q : Fin 4} {z : Int} (i : Nat) (hdg : decode cc pc = .ok (.iload_n q, 1)) (hk : lv[i]? = some ((q : Nat), vi z)) (k : J (pc + 1) lv (vi z :: st) w) : J pc lv (st) w := by
  obtain ⟨p, l, e_, R, s, m, args, below, meth, c, D, dA, cells, slots, Q, rfl, hx, hb, hml, hown, hts, hE, hd, hcs⟩ := hJ
  intro H locs ls hS hR hl
  exact lv_iload_n hx hb hdg rfl (lv_at hl i hk) (k H locs ls hS hR hl)
theorem j_iload (hJ : KOk cc own nL d b J) {q : Nat} {z : Int} (i : Nat) (hdg : decode cc pc = .ok (.iload q, 2)) (hk : lv[i]? = some (q, vi z)) (k : J (pc + 2) lv (vi z :: st) w) : J pc lv (st) w := by
  obtain ⟨p, l, e_, R, s, m, args, below, meth, c, D, dA, cells, slots, Q, rfl, hx, hb, hml, hown, hts, hE, hd, hcs⟩ := hJ
  intro H locs ls hS hR hl
  exact lv_iload hx hb hdg (lv_at hl i hk) (k H locs ls hS hR hl)
theorem j_aload_n (hJ : KOk cc own nL d b J) {q : Fin 4} {x : Nat} (i : Nat) (hdg : decode cc pc = .ok (.aload_n q, 1)) (hk : lv[i]? = some ((q : Nat), .ref x)) (k : J (pc + 1) lv (.ref x :: st) w) : J pc lv (st) w := by
  obtain ⟨p, l, e_, R, s, m, args, below, meth, c, D, dA, cells, slots, Q, rfl, hx, hb, hml, hown, hts, hE, hd, hcs⟩ := hJ
  intro H locs ls hS hR hl
  exact lv_aload_n hx hb hdg rfl (lv_at hl i hk) (k H locs ls hS hR hl)
theorem j_lload_n (hJ : KOk cc own nL d b J) {q : Fin 4} {x : Int64} (i : Nat) (hdg : decode cc pc = .ok (.lload_n q, 1)) (hk : lv[i]? = some ((q : Nat), .long x)) (k : J (pc + 1) lv (.long x :: st) w) : J pc lv (st) w := by
  obtain ⟨p, l, e_, R, s, m, args, below, meth, c, D, dA, cells, slots, Q, rfl, hx, hb, hml, hown, hts, hE, hd, hcs⟩ := hJ
  intro H locs ls hS hR hl
  exact lv_lload_n hx hb hdg rfl (lv_at hl i hk) (k H locs ls hS hR hl)
theorem j_lload (hJ : KOk cc own nL d b J) {q : Nat} {x : Int64} (i : Nat) (hdg : decode cc pc = .ok (.lload q, 2)) (hk : lv[i]? = some (q, .long x)) (k : J (pc + 2) lv (.long x :: st) w) : J pc lv (st) w := by
  obtain ⟨p, l, e_, R, s, m, args, below, meth, c, D, dA, cells, slots, Q, rfl, hx, hb, hml, hown, hts, hE, hd, hcs⟩ := hJ
  intro H locs ls hS hR hl
  exact lv_lload hx hb hdg (lv_at hl i hk) (k H locs ls hS hR hl)
theorem j_istore_n (hJ : KOk cc own nL d b J) {q : Fin 4} {z : Int} (lv1 : List (Nat × Value)) (hdg : decode cc pc = .ok (.istore_n q, 1)) (hn : (q : Nat) < nL) (hv : ((q : Nat), vi z) :: lv.filter (fun r => !(r.1 == (q : Nat)) && !(r.1 + 1 == (q : Nat) && r.2.category == 2)) = lv1) (k : J (pc + 1) lv1 (st) w) : J pc lv (vi z :: st) w := by
  obtain ⟨p, l, e_, R, s, m, args, below, meth, c, D, dA, cells, slots, Q, rfl, hx, hb, hml, hown, hts, hE, hd, hcs⟩ := hJ
  intro H locs ls hS hR hl
  exact lv_istore_n hx hb hdg rfl hl hn hv (fun A1 hA => k H locs A1 hS hR hA)
theorem j_istore (hJ : KOk cc own nL d b J) {q : Nat} {z : Int} (lv1 : List (Nat × Value)) (hdg : decode cc pc = .ok (.istore q, 2)) (hn : (q : Nat) < nL) (hv : ((q : Nat), vi z) :: lv.filter (fun r => !(r.1 == (q : Nat)) && !(r.1 + 1 == (q : Nat) && r.2.category == 2)) = lv1) (k : J (pc + 2) lv1 (st) w) : J pc lv (vi z :: st) w := by
  obtain ⟨p, l, e_, R, s, m, args, below, meth, c, D, dA, cells, slots, Q, rfl, hx, hb, hml, hown, hts, hE, hd, hcs⟩ := hJ
  intro H locs ls hS hR hl
  exact lv_istore hx hb hdg hl hn hv (fun A1 hA => k H locs A1 hS hR hA)
theorem j_lstore_n (hJ : KOk cc own nL d b J) {q : Fin 4} {x : Int64} (lv1 : List (Nat × Value)) (hdg : decode cc pc = .ok (.lstore_n q, 1)) (hn : (q : Nat) + 1 < nL) (hv : ((q : Nat), Value.long x) :: lv.filter (fun r => !(r.1 == (q : Nat)) && (!(r.1 == (q : Nat) + 1) && !(r.1 + 1 == (q : Nat) && r.2.category == 2))) = lv1) (k : J (pc + 1) lv1 (st) w) : J pc lv (Value.long x :: st) w := by
  obtain ⟨p, l, e_, R, s, m, args, below, meth, c, D, dA, cells, slots, Q, rfl, hx, hb, hml, hown, hts, hE, hd, hcs⟩ := hJ
  intro H locs ls hS hR hl
  exact lv_lstore_n hx hb hdg rfl hl hn hv (fun A1 hA => k H locs A1 hS hR hA)
theorem j_lstore (hJ : KOk cc own nL d b J) {q : Nat} {x : Int64} (lv1 : List (Nat × Value)) (hdg : decode cc pc = .ok (.lstore q, 2)) (hn : (q : Nat) + 1 < nL) (hv : ((q : Nat), Value.long x) :: lv.filter (fun r => !(r.1 == (q : Nat)) && (!(r.1 == (q : Nat) + 1) && !(r.1 + 1 == (q : Nat) && r.2.category == 2))) = lv1) (k : J (pc + 2) lv1 (st) w) : J pc lv (Value.long x :: st) w := by
  obtain ⟨p, l, e_, R, s, m, args, below, meth, c, D, dA, cells, slots, Q, rfl, hx, hb, hml, hown, hts, hE, hd, hcs⟩ := hJ
  intro H locs ls hS hR hl
  exact lv_lstore hx hb hdg hl hn hv (fun A1 hA => k H locs A1 hS hR hA)
theorem j_iinc (hJ : KOk cc own nL d b J) {q : Nat} {n z : Int} (lv1 : List (Nat × Value)) (i : Nat) (hdg : decode cc pc = .ok (.iinc q n, 3)) (hk : lv[i]? = some (q, vi z)) (hn : q < nL) (hv : ((q : Nat), vi (z + n)) :: lv.filter (fun r => !(r.1 == (q : Nat)) && !(r.1 + 1 == (q : Nat) && r.2.category == 2)) = lv1) (k : J (pc + 3) lv1 (st) w) : J pc lv (st) w := by
  obtain ⟨p, l, e_, R, s, m, args, below, meth, c, D, dA, cells, slots, Q, rfl, hx, hb, hml, hown, hts, hE, hd, hcs⟩ := hJ
  intro H locs ls hS hR hl
  exact lv_iinc hx hb hdg hl hk (Int32.ofInt_add z n).symm hn hv (fun A1 hA => k H locs A1 hS hR hA)
theorem j_sub (hJ : KOk cc own nL d b J) (is : List Nat) {lv1 : List (Nat × Value)} (h : lv_pick lv is = lv1) (k : J pc lv1 st w) : J pc lv st w := by
  obtain ⟨p, l, e_, R, s, m, args, below, meth, c, D, dA, cells, slots, Q, rfl, hx, hb, hml, hown, hts, hE, hd, hcs⟩ := hJ
  intro H locs ls hS hR hl
  exact k H locs ls hS hR (lv_sub hl is h)
theorem j_iadd (hJ : KOk cc own nL d b J) {x y : Int} (hdg : decode cc pc = .ok (.iadd, 1))  (k : J (pc + 1) lv (vi (x + y) :: st) w) : J pc lv (vi y :: vi x :: st) w := by
  obtain ⟨p, l, e_, R, s, m, args, below, meth, c, D, dA, cells, slots, Q, rfl, hx, hb, hml, hown, hts, hE, hd, hcs⟩ := hJ
  intro H locs ls hS hR hl
  refine lv_iadd hx hb hdg ?_
  rw [← Int32.ofInt_add]
  exact k H locs ls hS hR hl
theorem j_isub (hJ : KOk cc own nL d b J) {x y : Int} (hdg : decode cc pc = .ok (.isub, 1))  (k : J (pc + 1) lv (vi (x - y) :: st) w) : J pc lv (vi y :: vi x :: st) w := by
  obtain ⟨p, l, e_, R, s, m, args, below, meth, c, D, dA, cells, slots, Q, rfl, hx, hb, hml, hown, hts, hE, hd, hcs⟩ := hJ
  intro H locs ls hS hR hl
  refine lv_isub hx hb hdg ?_
  rw [← Int32.ofInt_sub]
  exact k H locs ls hS hR hl
theorem j_imul (hJ : KOk cc own nL d b J) {x y : Int} (hdg : decode cc pc = .ok (.imul, 1))  (k : J (pc + 1) lv (vi (x * y) :: st) w) : J pc lv (vi y :: vi x :: st) w := by
  obtain ⟨p, l, e_, R, s, m, args, below, meth, c, D, dA, cells, slots, Q, rfl, hx, hb, hml, hown, hts, hE, hd, hcs⟩ := hJ
  intro H locs ls hS hR hl
  refine lv_imul hx hb hdg ?_
  rw [← Int32.ofInt_mul]
  exact k H locs ls hS hR hl
theorem j_ladd (hJ : KOk cc own nL d b J) {x y : Int64} (hdg : decode cc pc = .ok (.ladd, 1))  (k : J (pc + 1) lv (.long (x + y) :: st) w) : J pc lv (.long y :: .long x :: st) w := by
  obtain ⟨p, l, e_, R, s, m, args, below, meth, c, D, dA, cells, slots, Q, rfl, hx, hb, hml, hown, hts, hE, hd, hcs⟩ := hJ
  intro H locs ls hS hR hl
  exact lv_ladd hx hb hdg (k H locs ls hS hR hl)
theorem j_lmul (hJ : KOk cc own nL d b J) {x y : Int64} (hdg : decode cc pc = .ok (.lmul, 1))  (k : J (pc + 1) lv (.long (x * y) :: st) w) : J pc lv (.long y :: .long x :: st) w := by
  obtain ⟨p, l, e_, R, s, m, args, below, meth, c, D, dA, cells, slots, Q, rfl, hx, hb, hml, hown, hts, hE, hd, hcs⟩ := hJ
  intro H locs ls hS hR hl
  exact lv_lmul hx hb hdg (k H locs ls hS hR hl)
theorem j_i2l (hJ : KOk cc own nL d b J) {z : Int} (hdg : decode cc pc = .ok (.i2l, 1))  (k : J (pc + 1) lv (.long (i6 z) :: st) w) : J pc lv (vi z :: st) w := by
  obtain ⟨p, l, e_, R, s, m, args, below, meth, c, D, dA, cells, slots, Q, rfl, hx, hb, hml, hown, hts, hE, hd, hcs⟩ := hJ
  intro H locs ls hS hR hl
  exact lv_i2l hx hb hdg rfl (k H locs ls hS hR hl)
theorem j_ldc2 (hJ : KOk cc own nL d b J) {idx : Nat} {v : Int64} (hc : Cond.constantLong own idx v ∈ lw_U) (hdg : decode cc pc = .ok (.ldc2_w idx, 3)) (k : J (pc + 3) lv (.long v :: st) w) : J pc lv st w := by
  obtain ⟨p, l, e_, R, s, m, args, below, meth, c, D, dA, cells, slots, Q, rfl, hx, hb, hml, hown, hts, hE, hd, hcs⟩ := hJ
  intro H locs ls hS hR hl
  exact lv_ldc2 hx hb hown (hts _ hc) hdg (k H locs ls hS hR hl)
theorem j_ishr (hJ : KOk cc own nL d b J) {x y : Int} (hdg : decode cc pc = .ok (.ishr, 1)) (k : ∀ z : Int, -2147483648 ≤ z ∧ z ≤ 2147483647 → J (pc + 1) lv (vi z :: st) w) : J pc lv (vi y :: vi x :: st) w := by
  have k := k (Int32.ofInt x >>> (Int32.ofInt y &&& 31)).toInt (rgx _)
  obtain ⟨p, l, e_, R, s, m, args, below, meth, c, D, dA, cells, slots, Q, rfl, hx, hb, hml, hown, hts, hE, hd, hcs⟩ := hJ
  intro H locs ls hS hR hl
  refine lv_ishr hx hb hdg ?_
  have k := k H locs ls hS hR hl
  have e : vi (Int32.ofInt x >>> (Int32.ofInt y &&& 31)).toInt = .int (Int32.ofInt x >>> (Int32.ofInt y &&& 31)) := by
    show Value.int (Int32.ofInt _) = _
    rw [Int32.ofInt_toInt]
  rw [e] at k
  exact k
theorem j_iand (hJ : KOk cc own nL d b J) {x y : Int} (hdg : decode cc pc = .ok (.iand, 1)) (k : ∀ z : Int, -2147483648 ≤ z ∧ z ≤ 2147483647 → J (pc + 1) lv (vi z :: st) w) : J pc lv (vi y :: vi x :: st) w := by
  have k := k (Int32.ofInt x &&& Int32.ofInt y).toInt (rgx _)
  obtain ⟨p, l, e_, R, s, m, args, below, meth, c, D, dA, cells, slots, Q, rfl, hx, hb, hml, hown, hts, hE, hd, hcs⟩ := hJ
  intro H locs ls hS hR hl
  refine lv_iand hx hb hdg ?_
  have k := k H locs ls hS hR hl
  have e : vi (Int32.ofInt x &&& Int32.ofInt y).toInt = .int (Int32.ofInt x &&& Int32.ofInt y) := by
    show Value.int (Int32.ofInt _) = _
    rw [Int32.ofInt_toInt]
  rw [e] at k
  exact k
theorem j_goto (hJ : KOk cc own nL d b J) {off : Int} {tgt : Nat} (hdg : decode cc pc = .ok (.goto off, 3)) (ht : (pc : Int) + off = (tgt : Int)) (k : J (tgt) lv (st) w) : J pc lv (st) w := by
  obtain ⟨p, l, e_, R, s, m, args, below, meth, c, D, dA, cells, slots, Q, rfl, hx, hb, hml, hown, hts, hE, hd, hcs⟩ := hJ
  intro H locs ls hS hR hl
  exact lv_goto hx hb hdg ht (k H locs ls hS hR hl)
theorem j_ifeq (hJ : KOk cc own nL d b J) {x : Int} {off : Int} {tgt : Nat} (hdg : decode cc pc = .ok (.ifCond .eq off, 3)) (ht : (pc : Int) + off = (tgt : Int)) (hxr : -2147483648 ≤ x ∧ x ≤ 2147483647) (kt : x = 0 → J tgt lv st w) (kf : ¬ x = 0 → J (pc + 3) lv st w) : J pc lv (vi x :: st) w := by
  obtain ⟨p, l, e_, R, s, m, args, below, meth, c, D, dA, cells, slots, Q, rfl, hx, hb, hml, hown, hts, hE, hd, hcs⟩ := hJ
  intro H locs ls hS hR hl
  have hi := i32_eq (a := x) (b := 0) hxr (by omega)
  rw [i32_0] at hi
  refine lv_if_eq hx hb hdg ht (fun q => kt ?_ H locs ls hS hR hl) (fun q => kf ?_ H locs ls hS hR hl)
  · exact hi.mp q
  · exact fun z => q (hi.mpr z)
theorem j_icmpeq (hJ : KOk cc own nL d b J) {x y : Int} {off : Int} {tgt : Nat} (hdg : decode cc pc = .ok (.if_icmp .eq off, 3)) (ht : (pc : Int) + off = (tgt : Int)) (hxr : -2147483648 ≤ x ∧ x ≤ 2147483647) (hyr : -2147483648 ≤ y ∧ y ≤ 2147483647) (kt : x = y → J tgt lv st w) (kf : ¬ x = y → J (pc + 3) lv st w) : J pc lv (vi y :: vi x :: st) w := by
  obtain ⟨p, l, e_, R, s, m, args, below, meth, c, D, dA, cells, slots, Q, rfl, hx, hb, hml, hown, hts, hE, hd, hcs⟩ := hJ
  intro H locs ls hS hR hl
  have hi := i32_eq (a := x) (b := y) hxr hyr
  refine lv_icmp_eq hx hb hdg ht (fun q => kt ?_ H locs ls hS hR hl) (fun q => kf ?_ H locs ls hS hR hl)
  · exact hi.mp q
  · exact fun z => q (hi.mpr z)
theorem j_ifne (hJ : KOk cc own nL d b J) {x : Int} {off : Int} {tgt : Nat} (hdg : decode cc pc = .ok (.ifCond .ne off, 3)) (ht : (pc : Int) + off = (tgt : Int)) (hxr : -2147483648 ≤ x ∧ x ≤ 2147483647) (kt : ¬ x = 0 → J tgt lv st w) (kf : x = 0 → J (pc + 3) lv st w) : J pc lv (vi x :: st) w := by
  obtain ⟨p, l, e_, R, s, m, args, below, meth, c, D, dA, cells, slots, Q, rfl, hx, hb, hml, hown, hts, hE, hd, hcs⟩ := hJ
  intro H locs ls hS hR hl
  have hi := i32_eq (a := x) (b := 0) hxr (by omega)
  rw [i32_0] at hi
  refine lv_if_ne hx hb hdg ht (fun q => kt ?_ H locs ls hS hR hl) (fun q => kf ?_ H locs ls hS hR hl)
  · exact fun z => q (hi.mpr z)
  · exact hi.mp q
theorem j_icmpne (hJ : KOk cc own nL d b J) {x y : Int} {off : Int} {tgt : Nat} (hdg : decode cc pc = .ok (.if_icmp .ne off, 3)) (ht : (pc : Int) + off = (tgt : Int)) (hxr : -2147483648 ≤ x ∧ x ≤ 2147483647) (hyr : -2147483648 ≤ y ∧ y ≤ 2147483647) (kt : ¬ x = y → J tgt lv st w) (kf : x = y → J (pc + 3) lv st w) : J pc lv (vi y :: vi x :: st) w := by
  obtain ⟨p, l, e_, R, s, m, args, below, meth, c, D, dA, cells, slots, Q, rfl, hx, hb, hml, hown, hts, hE, hd, hcs⟩ := hJ
  intro H locs ls hS hR hl
  have hi := i32_eq (a := x) (b := y) hxr hyr
  refine lv_icmp_ne hx hb hdg ht (fun q => kt ?_ H locs ls hS hR hl) (fun q => kf ?_ H locs ls hS hR hl)
  · exact fun z => q (hi.mpr z)
  · exact hi.mp q
theorem j_iflt (hJ : KOk cc own nL d b J) {x : Int} {off : Int} {tgt : Nat} (hdg : decode cc pc = .ok (.ifCond .lt off, 3)) (ht : (pc : Int) + off = (tgt : Int)) (hxr : -2147483648 ≤ x ∧ x ≤ 2147483647) (kt : x < 0 → J tgt lv st w) (kf : ¬ x < 0 → J (pc + 3) lv st w) : J pc lv (vi x :: st) w := by
  obtain ⟨p, l, e_, R, s, m, args, below, meth, c, D, dA, cells, slots, Q, rfl, hx, hb, hml, hown, hts, hE, hd, hcs⟩ := hJ
  intro H locs ls hS hR hl
  have hi := i32_lt (a := x) (b := 0) hxr (by omega)
  rw [i32_0] at hi
  refine lv_if_lt hx hb hdg ht (fun q => kt ?_ H locs ls hS hR hl) (fun q => kf ?_ H locs ls hS hR hl)
  · exact hi.mp q
  · exact fun z => q (hi.mpr z)
theorem j_icmplt (hJ : KOk cc own nL d b J) {x y : Int} {off : Int} {tgt : Nat} (hdg : decode cc pc = .ok (.if_icmp .lt off, 3)) (ht : (pc : Int) + off = (tgt : Int)) (hxr : -2147483648 ≤ x ∧ x ≤ 2147483647) (hyr : -2147483648 ≤ y ∧ y ≤ 2147483647) (kt : x < y → J tgt lv st w) (kf : ¬ x < y → J (pc + 3) lv st w) : J pc lv (vi y :: vi x :: st) w := by
  obtain ⟨p, l, e_, R, s, m, args, below, meth, c, D, dA, cells, slots, Q, rfl, hx, hb, hml, hown, hts, hE, hd, hcs⟩ := hJ
  intro H locs ls hS hR hl
  have hi := i32_lt (a := x) (b := y) hxr hyr
  refine lv_icmp_lt hx hb hdg ht (fun q => kt ?_ H locs ls hS hR hl) (fun q => kf ?_ H locs ls hS hR hl)
  · exact hi.mp q
  · exact fun z => q (hi.mpr z)
theorem j_ifge (hJ : KOk cc own nL d b J) {x : Int} {off : Int} {tgt : Nat} (hdg : decode cc pc = .ok (.ifCond .ge off, 3)) (ht : (pc : Int) + off = (tgt : Int)) (hxr : -2147483648 ≤ x ∧ x ≤ 2147483647) (kt : 0 ≤ x → J tgt lv st w) (kf : ¬ 0 ≤ x → J (pc + 3) lv st w) : J pc lv (vi x :: st) w := by
  obtain ⟨p, l, e_, R, s, m, args, below, meth, c, D, dA, cells, slots, Q, rfl, hx, hb, hml, hown, hts, hE, hd, hcs⟩ := hJ
  intro H locs ls hS hR hl
  have hi := i32_le (a := 0) (b := x) (by omega) hxr
  rw [i32_0] at hi
  refine lv_if_ge hx hb hdg ht (fun q => kt ?_ H locs ls hS hR hl) (fun q => kf ?_ H locs ls hS hR hl)
  · exact hi.mp q
  · exact fun z => q (hi.mpr z)
theorem j_icmpge (hJ : KOk cc own nL d b J) {x y : Int} {off : Int} {tgt : Nat} (hdg : decode cc pc = .ok (.if_icmp .ge off, 3)) (ht : (pc : Int) + off = (tgt : Int)) (hxr : -2147483648 ≤ x ∧ x ≤ 2147483647) (hyr : -2147483648 ≤ y ∧ y ≤ 2147483647) (kt : y ≤ x → J tgt lv st w) (kf : ¬ y ≤ x → J (pc + 3) lv st w) : J pc lv (vi y :: vi x :: st) w := by
  obtain ⟨p, l, e_, R, s, m, args, below, meth, c, D, dA, cells, slots, Q, rfl, hx, hb, hml, hown, hts, hE, hd, hcs⟩ := hJ
  intro H locs ls hS hR hl
  have hi := i32_le (a := y) (b := x) hyr hxr
  refine lv_icmp_ge hx hb hdg ht (fun q => kt ?_ H locs ls hS hR hl) (fun q => kf ?_ H locs ls hS hR hl)
  · exact hi.mp q
  · exact fun z => q (hi.mpr z)
theorem j_ifgt (hJ : KOk cc own nL d b J) {x : Int} {off : Int} {tgt : Nat} (hdg : decode cc pc = .ok (.ifCond .gt off, 3)) (ht : (pc : Int) + off = (tgt : Int)) (hxr : -2147483648 ≤ x ∧ x ≤ 2147483647) (kt : 0 < x → J tgt lv st w) (kf : ¬ 0 < x → J (pc + 3) lv st w) : J pc lv (vi x :: st) w := by
  obtain ⟨p, l, e_, R, s, m, args, below, meth, c, D, dA, cells, slots, Q, rfl, hx, hb, hml, hown, hts, hE, hd, hcs⟩ := hJ
  intro H locs ls hS hR hl
  have hi := i32_lt (a := 0) (b := x) (by omega) hxr
  rw [i32_0] at hi
  refine lv_if_gt hx hb hdg ht (fun q => kt ?_ H locs ls hS hR hl) (fun q => kf ?_ H locs ls hS hR hl)
  · exact hi.mp q
  · exact fun z => q (hi.mpr z)
theorem j_icmpgt (hJ : KOk cc own nL d b J) {x y : Int} {off : Int} {tgt : Nat} (hdg : decode cc pc = .ok (.if_icmp .gt off, 3)) (ht : (pc : Int) + off = (tgt : Int)) (hxr : -2147483648 ≤ x ∧ x ≤ 2147483647) (hyr : -2147483648 ≤ y ∧ y ≤ 2147483647) (kt : y < x → J tgt lv st w) (kf : ¬ y < x → J (pc + 3) lv st w) : J pc lv (vi y :: vi x :: st) w := by
  obtain ⟨p, l, e_, R, s, m, args, below, meth, c, D, dA, cells, slots, Q, rfl, hx, hb, hml, hown, hts, hE, hd, hcs⟩ := hJ
  intro H locs ls hS hR hl
  have hi := i32_lt (a := y) (b := x) hyr hxr
  refine lv_icmp_gt hx hb hdg ht (fun q => kt ?_ H locs ls hS hR hl) (fun q => kf ?_ H locs ls hS hR hl)
  · exact hi.mp q
  · exact fun z => q (hi.mpr z)
theorem j_ifle (hJ : KOk cc own nL d b J) {x : Int} {off : Int} {tgt : Nat} (hdg : decode cc pc = .ok (.ifCond .le off, 3)) (ht : (pc : Int) + off = (tgt : Int)) (hxr : -2147483648 ≤ x ∧ x ≤ 2147483647) (kt : x ≤ 0 → J tgt lv st w) (kf : ¬ x ≤ 0 → J (pc + 3) lv st w) : J pc lv (vi x :: st) w := by
  obtain ⟨p, l, e_, R, s, m, args, below, meth, c, D, dA, cells, slots, Q, rfl, hx, hb, hml, hown, hts, hE, hd, hcs⟩ := hJ
  intro H locs ls hS hR hl
  have hi := i32_le (a := x) (b := 0) hxr (by omega)
  rw [i32_0] at hi
  refine lv_if_le hx hb hdg ht (fun q => kt ?_ H locs ls hS hR hl) (fun q => kf ?_ H locs ls hS hR hl)
  · exact hi.mp q
  · exact fun z => q (hi.mpr z)
theorem j_icmple (hJ : KOk cc own nL d b J) {x y : Int} {off : Int} {tgt : Nat} (hdg : decode cc pc = .ok (.if_icmp .le off, 3)) (ht : (pc : Int) + off = (tgt : Int)) (hxr : -2147483648 ≤ x ∧ x ≤ 2147483647) (hyr : -2147483648 ≤ y ∧ y ≤ 2147483647) (kt : x ≤ y → J tgt lv st w) (kf : ¬ x ≤ y → J (pc + 3) lv st w) : J pc lv (vi y :: vi x :: st) w := by
  obtain ⟨p, l, e_, R, s, m, args, below, meth, c, D, dA, cells, slots, Q, rfl, hx, hb, hml, hown, hts, hE, hd, hcs⟩ := hJ
  intro H locs ls hS hR hl
  have hi := i32_le (a := x) (b := y) hxr hyr
  refine lv_icmp_le hx hb hdg ht (fun q => kt ?_ H locs ls hS hR hl) (fun q => kf ?_ H locs ls hS hR hl)
  · exact hi.mp q
  · exact fun z => q (hi.mpr z)
/-- a comparison of longs, and the branch behind it -/
theorem j_lcmpeq (hJ : KOk cc own nL d b J) {x y : Int64} {off : Int} {tgt : Nat} (hdg : decode cc pc = .ok (.lcmp, 1)) (hd2 : decode cc (pc + 1) = .ok (.ifCond .eq off, 3)) (ht : ((pc + 1 : Nat) : Int) + off = (tgt : Int)) (kt : x = y → J tgt lv st w) (kf : ¬ x = y → J (pc + 1 + 3) lv st w) : J pc lv (.long y :: .long x :: st) w := by
  obtain ⟨p, l, e_, R, s, m, args, below, meth, c, D, dA, cells, slots, Q, rfl, hx, hb, hml, hown, hts, hE, hd, hcs⟩ := hJ
  intro H locs ls hS hR hl
  refine W.lcmp hx hb hdg ?_
  exact lv_if_eq hx hb hd2 ht (fun q => kt ((lg_cmp_eq x y).mp q) H locs ls hS hR hl) (fun q => kf (fun z => q ((lg_cmp_eq x y).mpr z)) H locs ls hS hR hl)
/-! calls -/
theorem run_goR {p : Program} {l : Launch} {e_ : Env} {R : Room} {s : State} {m : MethodId} {args : Array Value} {below : List Frame} {meth : Method} {c : Code} {H : Heap} {locs : List Loc} {D : va_G} {dA : Nat → ClassId} {cells slots mc' ms' : Nat} {Q : State → Prop} {A : Array Slot} {PV : Option Value → Wd → Prop} {Qa : State → Outcome → State → Prop} {st0 rest : List Value} (hS : va_S (fun q => b ≤ q) s.heap H locs) (hr : va_Run p l e_ R s m args below meth c H locs cells slots mc' ms' (F0 m pc A st0) rest Qa (fun q => b ≤ q))
    (hQ : ∀ (u t : State) (v : Option Value), u.heap = H → Qa u (.returned v) t → ∃ w' : Wd, PV v w' ∧ Rp D dA b w' t.heap ∧ va_F (fun q => b ≤ q) u t)
    (k : ∀ (v : Option Value) (w' : Wd) (H1 : Heap) (locs1 : List Loc), PV v w' → va_S (fun q => b ≤ q) s.heap H1 locs1 → Rp D dA b w' H1 → W p l e_ R s m args below meth c H1 locs1 (cells + mc') (slots + ms') Q (F0 m (pc + 3) A (v.toList ++ rest))) : W p l e_ R s m args below meth c H locs cells slots Q (F0 m pc A st0) := by
  intro T hT X
  obtain ⟨v, st₀, t, T', L, h0, X', hLf, e1, e2, hqa, stp⟩ := hr T hT X
  obtain ⟨w', hPost, hR', hz, hk⟩ := hQ _ _ _ h0 hqa
  rw [h0] at hz hk
  have K := k v w' T'.heap (locs ++ L) hPost ⟨Nat.le_trans hS.1 (by rw [e1]; exact hz), fun q h1 h2 => by rw [e1, hk q (Nat.lt_of_lt_of_le h1 hS.1) h2]; exact hS.2.1 q h1 h2, fun q hq => by
      rcases List.mem_append.mp hq with h | h
      · exact hS.2.2 q h
      · exact hLf q h⟩ (by rw [e1]; exact hR')
  obtain ⟨t2, a1, b1⟩ := K T' rfl X'
  exact ⟨t2, stp t2 a1, b1⟩
theorem j_callV (hJ : KOk cc own nL d b J) {idx n d' ci a nn : Nat} {y : MethodName} {cy : ByteArray} {nLy : Nat} {rty : Option FieldType} {As : List MV} {st0 : List Value} {Post' : Option MV → Wd → Prop} (hL : LkV own idx ci y cy nLy rty n) (hdg : decode cc pc = .ok (.invokevirtual idx, 3)) (hM : CC d' 0 0 y cy nLy rty (.inr (some a) :: As) w Post') (hdd : d' + 1 ≤ d) (ha : a < w.1) (hsh : w.2.1 a = (ci, nn)) (hn : As.length = n) (hst : st0 = (As.map (tv b)).reverse ++ .ref (b + a) :: st) (h8 : (st.map fun v => v.category).sum ≤ 8)
    (k : ∀ (r : Option MV) (w' : Wd), Post' r w' → J (pc + 3) lv ((r.map (tv b)).toList ++ st) w') : J pc lv st0 w := by
  obtain ⟨p, l, e_, R, s, m, args, below, meth, c, D, dA, cells, slots, Q, rfl, hx, hb, hml, hown, hts, hE, hd, hcs⟩ := hJ
  intro H locs ls hS hR hl
  obtain ⟨⟨hini, hcode, hd3, hn20⟩, hlk, hins, hsel, ⟨T, N, hcl⟩, hc100⟩ := hL
  have hd9 := hd d' hdd
  have S : CallFix p m c cc nL s args lw_U own := ⟨hx, hb, hml, hown, hts⟩
  have cw := cwV (R := R) (s := s) (args := args) (own := own) (index := idx) (C := y.cls) (y := y) (bytes := cy) (maxL := nLy) (ret := rty) (rm := rmD d' 0 0) (Ts := lw_U) (ws := Cond.code y cy nLy rty :: lw_U) (ws' := lw_U) n hts (lkGood (ws := [.methodLink own idx y, .instanceMethod y, .selects y.cls y y, .initialized y.cls]) (by
      intro q hq
      simp only [List.mem_cons, List.not_mem_nil, or_false] at hq
      rcases hq with rfl | rfl | rfl | rfl
      · exact hlk
      · exact hins
      · exact hsel
      · exact hini) hcode) rfl rfl rfl ⟨rfl, hd3⟩ ⟨hd9.1, by show 8 + (nLy + 11) + 40 * d' ≤ _; omega⟩
  have hp : PreV s H y.cls (b + a) (va_Pc ((.inr (some a) :: As : List MV).map (tv b)) (fun U => Rp D dA b w U.heap ∧ EnvK D dA U)) (As.map (tv b)) :=
    ⟨CC_blind, va_recv hE.1 hR.1 hcl (wL_obj ha hsh hc100), fun U hU hW => ⟨rfl, by rw [hU]; exact hR, EnvK.moved hW hE⟩⟩
  refine run_goR (PV := fun v w' => ∃ r : Option MV, v = r.map (tv b) ∧ Post' r w') (D := D) (dA := dA) hS (va_runV S (hM l D dA b) cw hp rfl (by rw [List.length_map]; exact hn) hl.1 hst (lv_room h8) hdg ⟨by omega, by omega⟩) ?_ ?_
  · rintro u t v hu ⟨⟨r, w', hv, hPost, hR'⟩, hF⟩
    cases hv
    exact ⟨w', ⟨r, rfl, hPost⟩, hR', hF⟩
  · rintro v w' H1 locs1 ⟨r, rfl, hP⟩ hS1 hR1
    exact k r w' hP H1 locs1 ls hS1 hR1 hl
theorem j_callSG (hJ : KOk cc own nL d b J) {idx n d' : Nat} {y : MethodName} {cy : ByteArray} {nLy : Nat} {rty : Option FieldType} {As st0 : List Value} {BB : va_G → (Nat → ClassId) → State → Prop} {Qc : va_G → (Nat → ClassId) → Array Value → State → Outcome → State → Prop} {PV : Option Value → Wd → Prop} (hL : LkS own idx y cy nLy rty n) (hdg : decode cc pc = .ok (.invokestatic idx, 3)) (hM : ∀ (l : Launch) (D : va_G) (dA : Nat → ClassId), Met l y (Cond.code y cy nLy rty :: lw_U) (rmD d' 0 0) (va_Pc As (BB D dA)) (Qc D dA) 0 0 (fun q => b ≤ q)) (hFB : ∀ D dA, FrameBlind (va_Pc As (BB D dA))) (hdd : d' + 1 ≤ d) (hn : As.length = n) (hst : st0 = As.reverse ++ st) (h8 : (st.map fun v => v.category).sum ≤ 8)
    (hB : ∀ (D : va_G) (dA : Nat → ClassId) (U : State), Rp D dA b w U.heap → EnvK D dA U → BB D dA U)
    (hQ : ∀ (D : va_G) (dA : Nat → ClassId) (u t : State) (v : Option Value), Rp D dA b w u.heap → Qc D dA As.toArray u (.returned v) t → ∃ w' : Wd, PV v w' ∧ Rp D dA b w' t.heap ∧ va_F (fun q => b ≤ q) u t)
    (k : ∀ (v : Option Value) (w' : Wd), PV v w' → J (pc + 3) lv (v.toList ++ st) w') : J pc lv st0 w := by
  obtain ⟨p, l, e_, R, s, m, args, below, meth, c, D, dA, cells, slots, Q, rfl, hx, hb, hml, hown, hts, hE, hd, hcs⟩ := hJ
  intro H locs ls hS hR hl
  obtain ⟨⟨hini, hcode, hd3, hn20⟩, hlk, hstt⟩ := hL
  have hd9 := hd d' hdd
  have S : CallFix p m c cc nL s args lw_U own := ⟨hx, hb, hml, hown, hts⟩
  have hR2 : (rmD d' 0 0).frames + 1 ≤ R.frames ∧ 8 + (nLy + 11) + (rmD d' 0 0).locals ≤ R.locals := ⟨hd9.1, by show 8 + (nLy + 11) + 40 * d' ≤ _; omega⟩
  have hp : PreS s H (va_Pc As (BB D dA)) As := ⟨hFB D dA, fun U hU hW => ⟨rfl, hB D dA U (by rw [hU]; exact hR) (EnvK.moved hW hE)⟩⟩
  have hkk : ∀ (v : Option Value) (w' : Wd) (H1 : Heap) (locs1 : List Loc), PV v w' → va_S (fun q => b ≤ q) s.heap H1 locs1 → Rp D dA b w' H1 → W p l e_ R s m args below meth c H1 locs1 (cells + 0) (slots + 0) Q (F0 m (pc + 3) ls (v.toList ++ st)) := fun v w' H1 locs1 hP hS1 hR1 => k v w' hP H1 locs1 ls hS1 hR1 hl
  have hqq : ∀ (u t : State) (v : Option Value), u.heap = H → Qc D dA As.toArray u (.returned v) t → ∃ w' : Wd, PV v w' ∧ Rp D dA b w' t.heap ∧ va_F (fun q => b ≤ q) u t := fun u t v hu hq => hQ D dA u t v (by rw [hu]; exact hR) hq
  rcases hlk with hlk | ⟨host, hlk⟩
  · have cw := va_cwS (R := R) (s := s) (args := args) (own := own) (index := idx) (y := y) (bytes := cy) (maxL := nLy) (ret := rty) (rm := rmD d' 0 0) (Ts := lw_U) (ws := Cond.code y cy nLy rty :: lw_U) (ws' := lw_U) n hts (lkGood (ws := [.methodLink own idx y, .static y, .initialized y.cls]) (by
      intro q hq
      simp only [List.mem_cons, List.not_mem_nil, or_false] at hq
      rcases hq with rfl | rfl | rfl
      · exact hlk
      · exact hstt
      · exact hini) hcode) rfl rfl rfl hd3 hR2
    exact run_goR hS (va_runS S (hM l D dA) cw hp rfl hn hl.1 hst (lv_room h8) hdg ⟨by omega, by omega⟩) hqq hkk
  · have cw := va_cnB (R := R) (s := s) (args := args) (own := own) (host := host) (index := idx) (y := y) (bytes := cy) (maxL := nLy) (ret := rty) (rm := rmD d' 0 0) (Ts := lw_U) (ws := Cond.code y cy nLy rty :: lw_U) (ws' := lw_U) n hts (lkGood (ws := []) (fun q hq => absurd hq List.not_mem_nil) hcode) rfl rfl rfl (hE.2.1 _ hlk) (hts _ hini) hd3 hR2
    exact run_goR hS (va_runSN S (hM l D dA) ⟨cw, hts _ hstt, trivial⟩ hp rfl hn hl.1 hst (lv_room h8) hdg ⟨by omega, by omega⟩) hqq hkk
end KR
/-! the class's calls over a state of its own -/
def WA (a : AS) (w : Wd) : Prop := AbsOk a ∧ ∃ (I : Mem) (R : RMem) (π sg : Nat → Nat), w = (290, ShF, I, R) ∧ CI I R π sg a
section KC
variable {cc : ByteArray} {own : String} {nL d b : Nat} {J : Nat → List (Nat × Value) → List Value → Wd → Prop} {pc : Nat} {lv : List (Nat × Value)} {st : List Value} {w : Wd} {a : AS}
theorem j_callC (hJ : KOk cc own nL d b J) (hw : WA a w) {idx n d' : Nat} {y : MethodName} {cy : ByteArray} {nLy : Nat} {As : List MV} {st0 : List Value} {fa : Int × AS} (hL : LkV own idx 7 y cy nLy (some .int) n) (hdg : decode cc pc = .ok (.invokevirtual idx, 3)) (hM : ∀ (I : Mem) (R : RMem) (π sg : Nat → Nat), CI I R π sg a → AbsOk a → CC d' 0 0 y cy nLy (some .int) (.inr (some 0) :: As) (290, ShF, I, R) (PC fa I)) (hA2 : AbsOk a → AbsOk fa.2) (hdd : d' + 1 ≤ d) (hn : As.length = n) (hst : st0 = (As.map (tv b)).reverse ++ .ref (b + 0) :: st) (h8 : (st.map fun v => v.category).sum ≤ 8) (k : ∀ w' : Wd, WA fa.2 w' → J (pc + 3) lv (vi fa.1 :: st) w') : J pc lv st0 w := by
  obtain ⟨hA, I, R, π, sg, rfl, hI⟩ := hw
  refine j_callV hJ hL hdg (hM I R π sg hI hA) hdd sf_0.1 sf_0.2 hn hst h8 ?_
  rintro r w1 ⟨z, I1, R1, rfl, rfl, rfl, ⟨π1, sg1, hI1⟩, hf1⟩
  exact k _ ⟨hA2 hA, I1, R1, π1, sg1, rfl, hI1⟩
theorem j_callF (hJ : KOk cc own nL d b J) (hw : WA a w) {idx n d' : Nat} {y : MethodName} {cy : ByteArray} {nLy : Nat} {As : List MV} {st0 : List Value} {v : Int} (hL : LkV own idx 7 y cy nLy (some .int) n) (hdg : decode cc pc = .ok (.invokevirtual idx, 3)) (hM : ∀ (I : Mem) (R : RMem) (π sg : Nat → Nat), CI I R π sg a → AbsOk a → CC d' 0 0 y cy nLy (some .int) (.inr (some 0) :: As) (290, ShF, I, R) (PF v I R)) (hdd : d' + 1 ≤ d) (hn : As.length = n) (hst : st0 = (As.map (tv b)).reverse ++ .ref (b + 0) :: st) (h8 : (st.map fun v => v.category).sum ≤ 8) (k : J (pc + 3) lv (vi v :: st) w) : J pc lv st0 w := by
  obtain ⟨hA, I, R, π, sg, rfl, hI⟩ := hw
  refine j_callV hJ hL hdg (hM I R π sg hI hA) hdd sf_0.1 sf_0.2 hn hst h8 ?_
  rintro r w1 ⟨rfl, rfl⟩
  exact k
end KC
