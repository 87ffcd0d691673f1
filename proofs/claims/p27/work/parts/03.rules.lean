section RW
variable {cc : ByteArray} {own : String} {nL : Nat} {rt : Option FieldType} {ini : Bool} {d mc ms : Nat} {Post : Option MV → Wd → Prop} {uc us pc : Nat} {ls : List (Option MV)} {st : List MV} {w : Wd}
theorem r_iconst {n : Int} (hdg : decode cc pc = .ok (.iconst n, 1))  (k : WW cc own nL rt ini d mc ms Post uc us (pc + 1) ls (.inl n :: st) w) : WW cc own nL rt ini d mc ms Post uc us pc ls (st) w := by
  intro l D dA b p e_ s m args below meth c H locs A hC hb0 hS hR hL
  have k := k l D dA b p e_ s m args below meth c H locs A hC hb0 hS hR hL
  exact lv_iconst hC.1 hC.2.1 hdg rfl k
theorem r_bipush {n : Int} (hdg : decode cc pc = .ok (.bipush n, 2)) (hn : -128 ≤ n ∧ n ≤ 127) (k : WW cc own nL rt ini d mc ms Post uc us (pc + 2) ls (.inl n :: st) w) : WW cc own nL rt ini d mc ms Post uc us pc ls (st) w := by
  intro l D dA b p e_ s m args below meth c H locs A hC hb0 hS hR hL
  have k := k l D dA b p e_ s m args below meth c H locs A hC hb0 hS hR hL
  exact lv_bipush hC.1 hC.2.1 hdg (i32_bip hn) k
theorem r_sipush {n : Int} (hdg : decode cc pc = .ok (.sipush n, 3)) (hn : -32768 ≤ n ∧ n ≤ 32767) (k : WW cc own nL rt ini d mc ms Post uc us (pc + 3) ls (.inl n :: st) w) : WW cc own nL rt ini d mc ms Post uc us pc ls (st) w := by
  intro l D dA b p e_ s m args below meth c H locs A hC hb0 hS hR hL
  have k := k l D dA b p e_ s m args below meth c H locs A hC hb0 hS hR hL
  exact lv_sipush hC.1 hC.2.1 hdg (i32_sip hn) k
theorem r_iload_n {q : Fin 4} {z : Int} (hdg : decode cc pc = .ok (.iload_n q, 1)) (h : lg ls q = some (.inl z)) (k : WW cc own nL rt ini d mc ms Post uc us (pc + 1) ls (.inl z :: st) w) : WW cc own nL rt ini d mc ms Post uc us pc ls (st) w := by
  intro l D dA b p e_ s m args below meth c H locs A hC hb0 hS hR hL
  have k := k l D dA b p e_ s m args below meth c H locs A hC hb0 hS hR hL
  exact lv_iload_n hC.1 hC.2.1 hdg rfl (hL.2.2 _ _ h) k
theorem r_iload {i : Nat} {z : Int} (hdg : decode cc pc = .ok (.iload i, 2)) (h : lg ls i = some (.inl z)) (k : WW cc own nL rt ini d mc ms Post uc us (pc + 2) ls (.inl z :: st) w) : WW cc own nL rt ini d mc ms Post uc us pc ls (st) w := by
  intro l D dA b p e_ s m args below meth c H locs A hC hb0 hS hR hL
  have k := k l D dA b p e_ s m args below meth c H locs A hC hb0 hS hR hL
  exact lv_iload hC.1 hC.2.1 hdg (hL.2.2 _ _ h) k
theorem r_aload_n {q : Fin 4} {a : Nat} (hdg : decode cc pc = .ok (.aload_n q, 1)) (h : lg ls q = some (.inr (some a))) (k : WW cc own nL rt ini d mc ms Post uc us (pc + 1) ls (.inr (some a) :: st) w) : WW cc own nL rt ini d mc ms Post uc us pc ls (st) w := by
  intro l D dA b p e_ s m args below meth c H locs A hC hb0 hS hR hL
  have k := k l D dA b p e_ s m args below meth c H locs A hC hb0 hS hR hL
  exact lv_aload_n hC.1 hC.2.1 hdg rfl (hL.2.2 _ _ h) k
theorem r_aload {i a : Nat} (hdg : decode cc pc = .ok (.aload i, 2)) (h : lg ls i = some (.inr (some a))) (k : WW cc own nL rt ini d mc ms Post uc us (pc + 2) ls (.inr (some a) :: st) w) : WW cc own nL rt ini d mc ms Post uc us pc ls (st) w := by
  intro l D dA b p e_ s m args below meth c H locs A hC hb0 hS hR hL
  have k := k l D dA b p e_ s m args below meth c H locs A hC hb0 hS hR hL
  exact lv_aload hC.1 hC.2.1 hdg (hL.2.2 _ _ h) k
theorem r_istore_n {q : Fin 4} {z : Int} (hdg : decode cc pc = .ok (.istore_n q, 1)) (hi : (q : Nat) < nL) (k : WW cc own nL rt ini d mc ms Post uc us (pc + 1) (lset ls q (.inl z)) st w) : WW cc own nL rt ini d mc ms Post uc us pc ls (.inl z :: st) w := by
  intro l D dA b p e_ s m args below meth c H locs A hC hb0 hS hR hL
  refine lv_istore_n hC.1 hC.2.1 hdg rfl (lvL_has hL) hi rfl (fun A1 hA => ?_)
  exact k l D dA b p e_ s m args below meth c H locs A1 hC hb0 hS hR (lsOk_set rfl hA)
theorem r_istore {i : Nat} {z : Int} (hdg : decode cc pc = .ok (.istore i, 2)) (hi : (i : Nat) < nL) (k : WW cc own nL rt ini d mc ms Post uc us (pc + 2) (lset ls i (.inl z)) st w) : WW cc own nL rt ini d mc ms Post uc us pc ls (.inl z :: st) w := by
  intro l D dA b p e_ s m args below meth c H locs A hC hb0 hS hR hL
  refine lv_istore hC.1 hC.2.1 hdg  (lvL_has hL) hi rfl (fun A1 hA => ?_)
  exact k l D dA b p e_ s m args below meth c H locs A1 hC hb0 hS hR (lsOk_set rfl hA)
theorem r_astore_n {q : Fin 4} {a : Nat} (hdg : decode cc pc = .ok (.astore_n q, 1)) (hi : (q : Nat) < nL) (k : WW cc own nL rt ini d mc ms Post uc us (pc + 1) (lset ls q (.inr (some a))) st w) : WW cc own nL rt ini d mc ms Post uc us pc ls (.inr (some a) :: st) w := by
  intro l D dA b p e_ s m args below meth c H locs A hC hb0 hS hR hL
  refine lv_astore_n hC.1 hC.2.1 hdg rfl (lvL_has hL) hi rfl (fun A1 hA => ?_)
  exact k l D dA b p e_ s m args below meth c H locs A1 hC hb0 hS hR (lsOk_set rfl hA)
theorem r_astore {i a : Nat} (hdg : decode cc pc = .ok (.astore i, 2)) (hi : (i : Nat) < nL) (k : WW cc own nL rt ini d mc ms Post uc us (pc + 2) (lset ls i (.inr (some a))) st w) : WW cc own nL rt ini d mc ms Post uc us pc ls (.inr (some a) :: st) w := by
  intro l D dA b p e_ s m args below meth c H locs A hC hb0 hS hR hL
  refine lv_astore hC.1 hC.2.1 hdg  (lvL_has hL) hi rfl (fun A1 hA => ?_)
  exact k l D dA b p e_ s m args below meth c H locs A1 hC hb0 hS hR (lsOk_set rfl hA)
theorem r_iinc {i : Nat} {n z : Int} (hdg : decode cc pc = .ok (.iinc i n, 3)) (h : lg ls i = some (.inl z)) (hi : i < nL) (k : WW cc own nL rt ini d mc ms Post uc us (pc + 3) (lset ls i (.inl (z + n))) st w) : WW cc own nL rt ini d mc ms Post uc us pc ls st w := by
  intro l D dA b p e_ s m args below meth c H locs A hC hb0 hS hR hL
  obtain ⟨q, hq⟩ := List.getElem?_of_mem (lvL_in (b := b) h)
  refine lv_iinc hC.1 hC.2.1 hdg (lvL_has hL) hq rfl hi rfl (fun A1 hA => ?_)
  exact k l D dA b p e_ s m args below meth c H locs A1 hC hb0 hS hR (lsOk_set (by show Value.int (Int32.ofInt (z + n)) = _; rw [Int32.ofInt_add]) hA)
theorem r_iadd {x y : Int} (hdg : decode cc pc = .ok (.iadd, 1))  (k : WW cc own nL rt ini d mc ms Post uc us (pc + 1) ls (.inl (x + y) :: st) w) : WW cc own nL rt ini d mc ms Post uc us pc ls (.inl y :: .inl x :: st) w := by
  intro l D dA b p e_ s m args below meth c H locs A hC hb0 hS hR hL
  have k := k l D dA b p e_ s m args below meth c H locs A hC hb0 hS hR hL
  refine lv_iadd hC.1 hC.2.1 hdg ?_
  rw [← Int32.ofInt_add]
  exact k
theorem r_isub {x y : Int} (hdg : decode cc pc = .ok (.isub, 1))  (k : WW cc own nL rt ini d mc ms Post uc us (pc + 1) ls (.inl (x - y) :: st) w) : WW cc own nL rt ini d mc ms Post uc us pc ls (.inl y :: .inl x :: st) w := by
  intro l D dA b p e_ s m args below meth c H locs A hC hb0 hS hR hL
  have k := k l D dA b p e_ s m args below meth c H locs A hC hb0 hS hR hL
  refine lv_isub hC.1 hC.2.1 hdg ?_
  rw [← Int32.ofInt_sub]
  exact k
theorem r_imul {x y : Int} (hdg : decode cc pc = .ok (.imul, 1))  (k : WW cc own nL rt ini d mc ms Post uc us (pc + 1) ls (.inl (x * y) :: st) w) : WW cc own nL rt ini d mc ms Post uc us pc ls (.inl y :: .inl x :: st) w := by
  intro l D dA b p e_ s m args below meth c H locs A hC hb0 hS hR hL
  have k := k l D dA b p e_ s m args below meth c H locs A hC hb0 hS hR hL
  refine lv_imul hC.1 hC.2.1 hdg ?_
  rw [← Int32.ofInt_mul]
  exact k
theorem r_idiv {x y : Int} (hdg : decode cc pc = .ok (.idiv, 1)) (hx : 0 ≤ x ∧ x ≤ 2147483647) (hy : 0 < y ∧ y ≤ 2147483647) (k : WW cc own nL rt ini d mc ms Post uc us (pc + 1) ls (.inl (x / y) :: st) w) : WW cc own nL rt ini d mc ms Post uc us pc ls (.inl y :: .inl x :: st) w := by
  intro l D dA b p e_ s m args below meth c H locs A hC hb0 hS hR hL
  have k := k l D dA b p e_ s m args below meth c H locs A hC hb0 hS hR hL
  refine lv_idiv hC.1 hC.2.1 hdg (fun q => ?_) ?_
  · rw [← i32_0, i32_eq (by omega) (by omega)] at q
    omega
  · rw [i32_div hx hy]
    exact k
theorem r_irem {x y : Int} (hdg : decode cc pc = .ok (.irem, 1)) (hx : 0 ≤ x ∧ x ≤ 2147483647) (hy : 0 < y ∧ y ≤ 2147483647) (k : WW cc own nL rt ini d mc ms Post uc us (pc + 1) ls (.inl (x % y) :: st) w) : WW cc own nL rt ini d mc ms Post uc us pc ls (.inl y :: .inl x :: st) w := by
  intro l D dA b p e_ s m args below meth c H locs A hC hb0 hS hR hL
  have k := k l D dA b p e_ s m args below meth c H locs A hC hb0 hS hR hL
  refine lv_irem hC.1 hC.2.1 hdg (fun q => ?_) ?_
  · rw [← i32_0, i32_eq (by omega) (by omega)] at q
    omega
  · rw [i32_rem hx hy]
    exact k
theorem r_i2b {x : Int} (hdg : decode cc pc = .ok (.i2b, 1))  (k : WW cc own nL rt ini d mc ms Post uc us (pc + 1) ls (.inl (x.bmod 256) :: st) w) : WW cc own nL rt ini d mc ms Post uc us pc ls (.inl x :: st) w := by
  intro l D dA b p e_ s m args below meth c H locs A hC hb0 hS hR hL
  have k := k l D dA b p e_ s m args below meth c H locs A hC hb0 hS hR hL
  exact lv_i2b hC.1 hC.2.1 hdg (i32_i2b x) k
theorem r_dup {v : MV} (hdg : decode cc pc = .ok (.dup, 1))  (k : WW cc own nL rt ini d mc ms Post uc us (pc + 1) ls (v :: v :: st) w) : WW cc own nL rt ini d mc ms Post uc us pc ls (v :: st) w := by
  intro l D dA b p e_ s m args below meth c H locs A hC hb0 hS hR hL
  have k := k l D dA b p e_ s m args below meth c H locs A hC hb0 hS hR hL
  exact lv_dup hC.1 hC.2.1 hdg (tv_cat b v) k
theorem r_pop {v : MV} (hdg : decode cc pc = .ok (.pop, 1))  (k : WW cc own nL rt ini d mc ms Post uc us (pc + 1) ls (st) w) : WW cc own nL rt ini d mc ms Post uc us pc ls (v :: st) w := by
  intro l D dA b p e_ s m args below meth c H locs A hC hb0 hS hR hL
  have k := k l D dA b p e_ s m args below meth c H locs A hC hb0 hS hR hL
  exact lv_pop hC.1 hC.2.1 hdg (tv_cat b v) k
theorem r_dup2 {v u : MV} (hdg : decode cc pc = .ok (.dup2, 1))  (k : WW cc own nL rt ini d mc ms Post uc us (pc + 1) ls (v :: u :: v :: u :: st) w) : WW cc own nL rt ini d mc ms Post uc us pc ls (v :: u :: st) w := by
  intro l D dA b p e_ s m args below meth c H locs A hC hb0 hS hR hL
  have k := k l D dA b p e_ s m args below meth c H locs A hC hb0 hS hR hL
  exact lv_dup2_11 hC.1 hC.2.1 hdg (tv_cat b v) (tv_cat b u) k
theorem r_goto {off : Int} {tgt : Nat} (hdg : decode cc pc = .ok (.goto off, 3)) (ht : (pc : Int) + off = (tgt : Int)) (k : WW cc own nL rt ini d mc ms Post uc us tgt ls st w) : WW cc own nL rt ini d mc ms Post uc us pc ls st w := by
  intro l D dA b p e_ s m args below meth c H locs A hC hb0 hS hR hL
  exact lv_goto hC.1 hC.2.1 hdg ht (k l D dA b p e_ s m args below meth c H locs A hC hb0 hS hR hL)
theorem r_ifeq {x : Int} {off : Int} {tgt : Nat} (hdg : decode cc pc = .ok (.ifCond .eq off, 3)) (ht : (pc : Int) + off = (tgt : Int)) (hx : -2147483648 ≤ x ∧ x ≤ 2147483647) (kt : x = 0 → WW cc own nL rt ini d mc ms Post uc us tgt ls st w) (kf : ¬ x = 0 → WW cc own nL rt ini d mc ms Post uc us (pc + 3) ls st w) : WW cc own nL rt ini d mc ms Post uc us pc ls (.inl x :: st) w := by
  intro l D dA b p e_ s m args below meth c H locs A hC hb0 hS hR hL
  have hi := i32_eq (a := x) (b := 0) hx (by omega)
  rw [i32_0] at hi
  refine lv_if_eq hC.1 hC.2.1 hdg ht (fun q => kt ?_ l D dA b p e_ s m args below meth c H locs A hC hb0 hS hR hL) (fun q => kf ?_ l D dA b p e_ s m args below meth c H locs A hC hb0 hS hR hL)
  · exact hi.mp q
  · exact fun z => q (hi.mpr z)
theorem r_icmpeq {x y : Int} {off : Int} {tgt : Nat} (hdg : decode cc pc = .ok (.if_icmp .eq off, 3)) (ht : (pc : Int) + off = (tgt : Int)) (hx : -2147483648 ≤ x ∧ x ≤ 2147483647) (hy : -2147483648 ≤ y ∧ y ≤ 2147483647) (kt : x = y → WW cc own nL rt ini d mc ms Post uc us tgt ls st w) (kf : ¬ x = y → WW cc own nL rt ini d mc ms Post uc us (pc + 3) ls st w) : WW cc own nL rt ini d mc ms Post uc us pc ls (.inl y :: .inl x :: st) w := by
  intro l D dA b p e_ s m args below meth c H locs A hC hb0 hS hR hL
  have hi := i32_eq (a := x) (b := y) hx hy
  refine lv_icmp_eq hC.1 hC.2.1 hdg ht (fun q => kt ?_ l D dA b p e_ s m args below meth c H locs A hC hb0 hS hR hL) (fun q => kf ?_ l D dA b p e_ s m args below meth c H locs A hC hb0 hS hR hL)
  · exact hi.mp q
  · exact fun z => q (hi.mpr z)
theorem r_ifne {x : Int} {off : Int} {tgt : Nat} (hdg : decode cc pc = .ok (.ifCond .ne off, 3)) (ht : (pc : Int) + off = (tgt : Int)) (hx : -2147483648 ≤ x ∧ x ≤ 2147483647) (kt : ¬ x = 0 → WW cc own nL rt ini d mc ms Post uc us tgt ls st w) (kf : x = 0 → WW cc own nL rt ini d mc ms Post uc us (pc + 3) ls st w) : WW cc own nL rt ini d mc ms Post uc us pc ls (.inl x :: st) w := by
  intro l D dA b p e_ s m args below meth c H locs A hC hb0 hS hR hL
  have hi := i32_eq (a := x) (b := 0) hx (by omega)
  rw [i32_0] at hi
  refine lv_if_ne hC.1 hC.2.1 hdg ht (fun q => kt ?_ l D dA b p e_ s m args below meth c H locs A hC hb0 hS hR hL) (fun q => kf ?_ l D dA b p e_ s m args below meth c H locs A hC hb0 hS hR hL)
  · exact fun z => q (hi.mpr z)
  · exact hi.mp q
theorem r_icmpne {x y : Int} {off : Int} {tgt : Nat} (hdg : decode cc pc = .ok (.if_icmp .ne off, 3)) (ht : (pc : Int) + off = (tgt : Int)) (hx : -2147483648 ≤ x ∧ x ≤ 2147483647) (hy : -2147483648 ≤ y ∧ y ≤ 2147483647) (kt : ¬ x = y → WW cc own nL rt ini d mc ms Post uc us tgt ls st w) (kf : x = y → WW cc own nL rt ini d mc ms Post uc us (pc + 3) ls st w) : WW cc own nL rt ini d mc ms Post uc us pc ls (.inl y :: .inl x :: st) w := by
  intro l D dA b p e_ s m args below meth c H locs A hC hb0 hS hR hL
  have hi := i32_eq (a := x) (b := y) hx hy
  refine lv_icmp_ne hC.1 hC.2.1 hdg ht (fun q => kt ?_ l D dA b p e_ s m args below meth c H locs A hC hb0 hS hR hL) (fun q => kf ?_ l D dA b p e_ s m args below meth c H locs A hC hb0 hS hR hL)
  · exact fun z => q (hi.mpr z)
  · exact hi.mp q
theorem r_iflt {x : Int} {off : Int} {tgt : Nat} (hdg : decode cc pc = .ok (.ifCond .lt off, 3)) (ht : (pc : Int) + off = (tgt : Int)) (hx : -2147483648 ≤ x ∧ x ≤ 2147483647) (kt : x < 0 → WW cc own nL rt ini d mc ms Post uc us tgt ls st w) (kf : ¬ x < 0 → WW cc own nL rt ini d mc ms Post uc us (pc + 3) ls st w) : WW cc own nL rt ini d mc ms Post uc us pc ls (.inl x :: st) w := by
  intro l D dA b p e_ s m args below meth c H locs A hC hb0 hS hR hL
  have hi := i32_lt (a := x) (b := 0) hx (by omega)
  rw [i32_0] at hi
  refine lv_if_lt hC.1 hC.2.1 hdg ht (fun q => kt ?_ l D dA b p e_ s m args below meth c H locs A hC hb0 hS hR hL) (fun q => kf ?_ l D dA b p e_ s m args below meth c H locs A hC hb0 hS hR hL)
  · exact hi.mp q
  · exact fun z => q (hi.mpr z)
theorem r_icmplt {x y : Int} {off : Int} {tgt : Nat} (hdg : decode cc pc = .ok (.if_icmp .lt off, 3)) (ht : (pc : Int) + off = (tgt : Int)) (hx : -2147483648 ≤ x ∧ x ≤ 2147483647) (hy : -2147483648 ≤ y ∧ y ≤ 2147483647) (kt : x < y → WW cc own nL rt ini d mc ms Post uc us tgt ls st w) (kf : ¬ x < y → WW cc own nL rt ini d mc ms Post uc us (pc + 3) ls st w) : WW cc own nL rt ini d mc ms Post uc us pc ls (.inl y :: .inl x :: st) w := by
  intro l D dA b p e_ s m args below meth c H locs A hC hb0 hS hR hL
  have hi := i32_lt (a := x) (b := y) hx hy
  refine lv_icmp_lt hC.1 hC.2.1 hdg ht (fun q => kt ?_ l D dA b p e_ s m args below meth c H locs A hC hb0 hS hR hL) (fun q => kf ?_ l D dA b p e_ s m args below meth c H locs A hC hb0 hS hR hL)
  · exact hi.mp q
  · exact fun z => q (hi.mpr z)
theorem r_ifge {x : Int} {off : Int} {tgt : Nat} (hdg : decode cc pc = .ok (.ifCond .ge off, 3)) (ht : (pc : Int) + off = (tgt : Int)) (hx : -2147483648 ≤ x ∧ x ≤ 2147483647) (kt : 0 ≤ x → WW cc own nL rt ini d mc ms Post uc us tgt ls st w) (kf : ¬ 0 ≤ x → WW cc own nL rt ini d mc ms Post uc us (pc + 3) ls st w) : WW cc own nL rt ini d mc ms Post uc us pc ls (.inl x :: st) w := by
  intro l D dA b p e_ s m args below meth c H locs A hC hb0 hS hR hL
  have hi := i32_le (a := 0) (b := x) (by omega) hx
  rw [i32_0] at hi
  refine lv_if_ge hC.1 hC.2.1 hdg ht (fun q => kt ?_ l D dA b p e_ s m args below meth c H locs A hC hb0 hS hR hL) (fun q => kf ?_ l D dA b p e_ s m args below meth c H locs A hC hb0 hS hR hL)
  · exact hi.mp q
  · exact fun z => q (hi.mpr z)
theorem r_icmpge {x y : Int} {off : Int} {tgt : Nat} (hdg : decode cc pc = .ok (.if_icmp .ge off, 3)) (ht : (pc : Int) + off = (tgt : Int)) (hx : -2147483648 ≤ x ∧ x ≤ 2147483647) (hy : -2147483648 ≤ y ∧ y ≤ 2147483647) (kt : y ≤ x → WW cc own nL rt ini d mc ms Post uc us tgt ls st w) (kf : ¬ y ≤ x → WW cc own nL rt ini d mc ms Post uc us (pc + 3) ls st w) : WW cc own nL rt ini d mc ms Post uc us pc ls (.inl y :: .inl x :: st) w := by
  intro l D dA b p e_ s m args below meth c H locs A hC hb0 hS hR hL
  have hi := i32_le (a := y) (b := x) hy hx
  refine lv_icmp_ge hC.1 hC.2.1 hdg ht (fun q => kt ?_ l D dA b p e_ s m args below meth c H locs A hC hb0 hS hR hL) (fun q => kf ?_ l D dA b p e_ s m args below meth c H locs A hC hb0 hS hR hL)
  · exact hi.mp q
  · exact fun z => q (hi.mpr z)
theorem r_ifgt {x : Int} {off : Int} {tgt : Nat} (hdg : decode cc pc = .ok (.ifCond .gt off, 3)) (ht : (pc : Int) + off = (tgt : Int)) (hx : -2147483648 ≤ x ∧ x ≤ 2147483647) (kt : 0 < x → WW cc own nL rt ini d mc ms Post uc us tgt ls st w) (kf : ¬ 0 < x → WW cc own nL rt ini d mc ms Post uc us (pc + 3) ls st w) : WW cc own nL rt ini d mc ms Post uc us pc ls (.inl x :: st) w := by
  intro l D dA b p e_ s m args below meth c H locs A hC hb0 hS hR hL
  have hi := i32_lt (a := 0) (b := x) (by omega) hx
  rw [i32_0] at hi
  refine lv_if_gt hC.1 hC.2.1 hdg ht (fun q => kt ?_ l D dA b p e_ s m args below meth c H locs A hC hb0 hS hR hL) (fun q => kf ?_ l D dA b p e_ s m args below meth c H locs A hC hb0 hS hR hL)
  · exact hi.mp q
  · exact fun z => q (hi.mpr z)
theorem r_icmpgt {x y : Int} {off : Int} {tgt : Nat} (hdg : decode cc pc = .ok (.if_icmp .gt off, 3)) (ht : (pc : Int) + off = (tgt : Int)) (hx : -2147483648 ≤ x ∧ x ≤ 2147483647) (hy : -2147483648 ≤ y ∧ y ≤ 2147483647) (kt : y < x → WW cc own nL rt ini d mc ms Post uc us tgt ls st w) (kf : ¬ y < x → WW cc own nL rt ini d mc ms Post uc us (pc + 3) ls st w) : WW cc own nL rt ini d mc ms Post uc us pc ls (.inl y :: .inl x :: st) w := by
  intro l D dA b p e_ s m args below meth c H locs A hC hb0 hS hR hL
  have hi := i32_lt (a := y) (b := x) hy hx
  refine lv_icmp_gt hC.1 hC.2.1 hdg ht (fun q => kt ?_ l D dA b p e_ s m args below meth c H locs A hC hb0 hS hR hL) (fun q => kf ?_ l D dA b p e_ s m args below meth c H locs A hC hb0 hS hR hL)
  · exact hi.mp q
  · exact fun z => q (hi.mpr z)
theorem r_ifle {x : Int} {off : Int} {tgt : Nat} (hdg : decode cc pc = .ok (.ifCond .le off, 3)) (ht : (pc : Int) + off = (tgt : Int)) (hx : -2147483648 ≤ x ∧ x ≤ 2147483647) (kt : x ≤ 0 → WW cc own nL rt ini d mc ms Post uc us tgt ls st w) (kf : ¬ x ≤ 0 → WW cc own nL rt ini d mc ms Post uc us (pc + 3) ls st w) : WW cc own nL rt ini d mc ms Post uc us pc ls (.inl x :: st) w := by
  intro l D dA b p e_ s m args below meth c H locs A hC hb0 hS hR hL
  have hi := i32_le (a := x) (b := 0) hx (by omega)
  rw [i32_0] at hi
  refine lv_if_le hC.1 hC.2.1 hdg ht (fun q => kt ?_ l D dA b p e_ s m args below meth c H locs A hC hb0 hS hR hL) (fun q => kf ?_ l D dA b p e_ s m args below meth c H locs A hC hb0 hS hR hL)
  · exact hi.mp q
  · exact fun z => q (hi.mpr z)
theorem r_icmple {x y : Int} {off : Int} {tgt : Nat} (hdg : decode cc pc = .ok (.if_icmp .le off, 3)) (ht : (pc : Int) + off = (tgt : Int)) (hx : -2147483648 ≤ x ∧ x ≤ 2147483647) (hy : -2147483648 ≤ y ∧ y ≤ 2147483647) (kt : x ≤ y → WW cc own nL rt ini d mc ms Post uc us tgt ls st w) (kf : ¬ x ≤ y → WW cc own nL rt ini d mc ms Post uc us (pc + 3) ls st w) : WW cc own nL rt ini d mc ms Post uc us pc ls (.inl y :: .inl x :: st) w := by
  intro l D dA b p e_ s m args below meth c H locs A hC hb0 hS hR hL
  have hi := i32_le (a := x) (b := y) hx hy
  refine lv_icmp_le hC.1 hC.2.1 hdg ht (fun q => kt ?_ l D dA b p e_ s m args below meth c H locs A hC hb0 hS hR hL) (fun q => kf ?_ l D dA b p e_ s m args below meth c H locs A hC hb0 hS hR hL)
  · exact hi.mp q
  · exact fun z => q (hi.mpr z)
/-! returns -/
theorem r_iret {z : Int} (hdg : decode cc pc = .ok (.ireturn, 1)) (hr : rt = some .int) (hf : uc ≤ mc ∧ us ≤ ms) (hq : Post (some (.inl z)) w) : WW cc own nL rt ini d mc ms Post uc us pc ls [.inl z] w := by
  intro l D dA b p e_ s m args below meth c H locs A hC hb0 hS hR hL
  refine W.widen hf.1 hf.2 ?_
  exact W.iret hC.1 hC.2.1 (hC.2.2.2.1.trans hr) (fun t ht hW => ⟨⟨some (.inl z), w, rfl, hq, by rw [ht]; exact hR⟩, hS.F ht⟩) hS.2.2 hdg hC.2.2.2.2.1
theorem r_zret {z : Int} (hdg : decode cc pc = .ok (.ireturn, 1)) (hr : rt = some .boolean) (hz : z = 0 ∨ z = 1) (hf : uc ≤ mc ∧ us ≤ ms) (hq : Post (some (.inl z)) w) : WW cc own nL rt ini d mc ms Post uc us pc ls [.inl z] w := by
  intro l D dA b p e_ s m args below meth c H locs A hC hb0 hS hR hL
  refine W.widen hf.1 hf.2 ?_
  refine W.zret hC.1 hC.2.1 (hC.2.2.2.1.trans hr) ?_ (fun t ht hW => ⟨⟨some (.inl z), w, rfl, hq, by rw [ht]; exact hR⟩, hS.F ht⟩) hS.2.2 hdg hC.2.2.2.2.1
  rcases hz with rfl | rfl <;> rfl
theorem r_vret (hdg : decode cc pc = .ok (.return_, 1)) (hr : rt = none) (hf : uc ≤ mc ∧ us ≤ ms) (hq : Post none w) : WW cc own nL rt ini d mc ms Post uc us pc ls [] w := by
  intro l D dA b p e_ s m args below meth c H locs A hC hb0 hS hR hL
  refine W.widen hf.1 hf.2 ?_
  exact W.vret hC.1 hC.2.1 (hC.2.2.2.1.trans hr) (fun t ht hW => ⟨⟨none, w, rfl, hq, by rw [ht]; exact hR⟩, hS.F ht⟩) hS.2.2 hdg hC.2.2.2.2.1
theorem r_aret {a : Nat} {n : String} (hdg : decode cc pc = .ok (.areturn, 1)) (hr : rt = some (.object n)) (hf : uc ≤ mc ∧ us ≤ ms) (hq : Post (some (.inr (some a))) w) : WW cc own nL rt ini d mc ms Post uc us pc ls [.inr (some a)] w := by
  intro l D dA b p e_ s m args below meth c H locs A hC hb0 hS hR hL
  refine W.widen hf.1 hf.2 ?_
  exact W.aret hC.1 hC.2.1 (hC.2.2.2.1.trans hr) (Or.inl ⟨n, rfl⟩) (Or.inr ⟨b + a, rfl⟩) (fun t ht hW => ⟨⟨some (.inr (some a)), w, rfl, hq, by rw [ht]; exact hR⟩, hS.F ht⟩) hS.2.2 hdg hC.2.2.2.2.1
/-! arrays -/
theorem r_iald {a n : Nat} {i : Int} (hdg : decode cc pc = .ok (.iaload, 1)) (ha : a < w.1) (hs : w.2.1 a = (100, n)) (hn : n ≤ 2147483647) (hi : 0 ≤ i ∧ i < n) (k : WW cc own nL rt ini d mc ms Post uc us (pc + 1) ls (.inl (w.2.2.1 a i) :: st) w) : WW cc own nL rt ini d mc ms Post uc us pc ls (.inl i :: .inr (some a) :: st) w := by
  intro l D dA b p e_ s m args below meth c H locs A hC hb0 hS hR hL
  have k := k l D dA b p e_ s m args below meth c H locs A hC hb0 hS hR hL
  refine va_iald hC.1 hC.2.1 hC.2.2.2.2.2.2.2.2.1 hR.1 a 0 (wL_int (t := 0) ha hs (by omega)) rfl (i32_in hi hn) hdg ?_
  rw [i32_cl (by omega)]
  have e : ((i.toNat : Nat) : Int) = i := Int.toNat_of_nonneg hi.1
  show W _ _ _ _ _ _ _ _ _ _ _ _ _ _ _ (F0 m (pc + 1) A (.int (Int32.ofInt (w.2.2.1 a ((i.toNat : Nat) : Int))) :: _))
  rw [e]
  exact k
theorem r_aald {a n t : Nat} {i : Int} {r : Nat} (hdg : decode cc pc = .ok (.aaload, 1)) (ha : a < w.1) (hs : w.2.1 a = (100 + t, n)) (ht : 2 ≤ t ∧ t ≤ 4) (hn : n ≤ 2147483647) (hi : 0 ≤ i ∧ i < n) (hr : w.2.2.2 a i = some r) (k : WW cc own nL rt ini d mc ms Post uc us (pc + 1) ls (.inr (some r) :: st) w) : WW cc own nL rt ini d mc ms Post uc us pc ls (.inl i :: .inr (some a) :: st) w := by
  intro l D dA b p e_ s m args below meth c H locs A hC hb0 hS hR hL
  have k := k l D dA b p e_ s m args below meth c H locs A hC hb0 hS hR hL
  have e : ((i.toNat : Nat) : Int) = i := Int.toNat_of_nonneg hi.1
  have go : ∀ C : String, (tysA dA)[t]? = some (dA t, .object C) → W p l e_ (rmD d mc ms) s m args below meth c H locs uc us (MQ below (QP D dA b Post) args s mc ms (fun q => b ≤ q)) (F0 m pc A (.int (Int32.ofInt i) :: .ref (b + a) :: st.map (tv b))) := by
    intro C hC2
    refine va_aldq hC.1 hC.2.1 hC.2.2.2.2.2.2.2.2.1 hR.1 a t (wL_ref ha hs ht.1) hC2 (i32_in hi hn) hdg ?_
    rw [i32_cl (by omega)]
    show W _ _ _ _ _ _ _ _ _ _ _ _ _ _ _ (F0 m (pc + 1) A (va_rf ((w.2.2.2 a ((i.toNat : Nat) : Int)).map _) :: _))
    rw [e, hr]
    exact k
  rcases (show t = 2 ∨ t = 3 ∨ t = 4 by omega) with rfl | rfl | rfl
  · exact go _ rfl
  · exact go _ rfl
  · exact go _ rfl
theorem r_aaldI {a n : Nat} {i : Int} {r : Nat} (hdg : decode cc pc = .ok (.aaload, 1)) (ha : a < w.1) (hs : w.2.1 a = (105, n)) (hn : n ≤ 2147483647) (hi : 0 ≤ i ∧ i < n) (hr : w.2.2.2 a i = some r) (k : WW cc own nL rt ini d mc ms Post uc us (pc + 1) ls (.inr (some r) :: st) w) : WW cc own nL rt ini d mc ms Post uc us pc ls (.inl i :: .inr (some a) :: st) w := by
  intro l D dA b p e_ s m args below meth c H locs A hC hb0 hS hR hL
  have k := k l D dA b p e_ s m args below meth c H locs A hC hb0 hS hR hL
  have e : ((i.toNat : Nat) : Int) = i := Int.toNat_of_nonneg hi.1
  have hg := wL_ref (b := b) (dA := dA) (t := 5) ha hs (by omega)
  have hlt : (Int32.ofInt i).toNatClampNeg < n := by rw [i32_cl (by omega)]; omega
  refine W.aald (v := va_rf (some (b + r))) (ty := .array .int) hC.1 hC.2.1 (hR.1 a _ hg) ((hC.2.2.2.2.2.2.2.2.1.2 5 _ rfl).1 n (fun j => va_rf ((w.2.2.2 a j).map (fun q => b + q)))) rfl (fun q => by cases q) (by show ¬ (_ ∨ (arrV _ _ _).slots.size ≤ _); rw [arrV_size]; exact i32_in hi hn) (by show (arrV _ _ _).slots[_]? = _; rw [arrV_read _ _ hlt, i32_cl (by omega)]; show some (va_rf ((w.2.2.2 a ((i.toNat : Nat) : Int)).map _)) = _; rw [e, hr]; rfl) rfl rfl hdg k
theorem wE_iset {b : Nat} {dA : Nat → ClassId} {w : Wd} {a t n : Nat} {i z : Int} (hs : w.2.1 a = (100 + t, n)) (ht : t < 2) (hi : 0 ≤ i) : wE b dA (setI w a i z) a = .inl (dA t, n, .inl (upd (fun j : Nat => Int32.ofInt (w.2.2.1 a j)) i.toNat (Int32.ofInt z))) := by
  unfold wE
  rw [show (setI w a i z).2.1 = w.2.1 from rfl, hs, if_neg (by show ¬ 100 + t < 100; omega), if_pos (by show 100 + t < 102; omega)]
  show Sum.inl (dA (100 + t - 100), n, Sum.inl _) = _
  rw [Nat.add_sub_cancel_left]
  congr 4
  funext j
  unfold upd
  by_cases hj : j = i.toNat
  · rw [if_pos hj]
    show Int32.ofInt (u2 w.2.2.1 a i z a (j : Int)) = _
    rw [show ((j : Nat) : Int) = i by omega, u2_s]
  · rw [if_neg hj]
    show Int32.ofInt (u2 w.2.2.1 a i z a (j : Int)) = _
    rw [u2_n (Or.inr (by omega))]
theorem wE_rset {b : Nat} {dA : Nat → ClassId} {w : Wd} {a t n : Nat} {i : Int} {z : Nat} (hs : w.2.1 a = (100 + t, n)) (ht : 2 ≤ t) (hi : 0 ≤ i) : wE b dA (setR w a i (some z)) a = .inl (dA t, n, .inr (.inr (.inr (.inr (va_up (fun j : Nat => (w.2.2.2 a j).map (fun q => b + q)) i.toNat (some (b + z))))))) := by
  unfold wE
  rw [show (setR w a i (some z)).2.1 = w.2.1 from rfl, hs, if_neg (by show ¬ 100 + t < 100; omega), if_neg (by show ¬ 100 + t < 102; omega)]
  show Sum.inl (dA (100 + t - 100), n, Sum.inr _) = _
  rw [Nat.add_sub_cancel_left]
  congr 7
  funext j
  unfold va_up
  by_cases hj : j = i.toNat
  · rw [if_pos hj]
    show (u2 w.2.2.2 a i (some z) a (j : Int)).map _ = _
    rw [show ((j : Nat) : Int) = i by omega, u2_s]
    rfl
  · rw [if_neg hj]
    show (u2 w.2.2.2 a i (some z) a (j : Int)).map _ = _
    rw [u2_n (Or.inr (by omega))]

theorem Rp_set {D : va_G} {dA : Nat → ClassId} {b : Nat} {w w' : Wd} {H H1 : Heap} {a : Nat} (hR : Rp D dA b w H) (ha : a < w.1) (h1 : w'.1 = w.1) (hn : ∀ q, q ≠ a → wE b dA w' q = wE b dA w q) (he : va_at D cls9 (b + a, wE b dA w' a) H1) (oq : ∀ q, q ≠ b + a → H1[q]? = H[q]?) (z : H1.size = H.size) : Rp D dA b w' H1 := by
  refine ⟨?_, by rw [z, hR.2, h1]⟩
  rw [← wL_set ha h1 rfl hn]
  exact hR.1.set (wL_D b dA w) (wL_get ha) he oq
theorem r_iast {a n : Nat} {i z : Int} (hdg : decode cc pc = .ok (.iastore, 1)) (ha : a < w.1) (hs : w.2.1 a = (100, n)) (hn : n ≤ 2147483647) (hi : 0 ≤ i ∧ i < n) (k : WW cc own nL rt ini d mc ms Post uc us (pc + 1) ls st (setI w a i z)) : WW cc own nL rt ini d mc ms Post uc us pc ls (.inl z :: .inl i :: .inr (some a) :: st) w := by
  intro l D dA b p e_ s m args below meth c H locs A hC hb0 hS hR hL
  have hK := hC.2.2.2.2.2.2.2.2.1
  refine W.iast hC.1 hC.2.1 (hR.1 a _ (wL_int (t := 0) ha hs (by omega))) ((hK.2 0 _ rfl).1 n (fun j => .int (Int32.ofInt (w.2.2.1 a j)))) (fun q => by cases q) (by show ¬ (_ ∨ (arrV _ _ _).slots.size ≤ _); rw [arrV_size]; exact i32_in hi hn) rfl rfl hdg fun H1 e z1 oq => ?_
  refine k l D dA b p e_ s m args below meth c H1 _ A hC hb0 (hS.put z1 oq (by show b ≤ b + a; omega)) (Rp_set hR ha rfl (fun q hq => wE_setI q hq) ?_ oq z1) hL
  rw [wE_iset (t := 0) hs (by omega) hi.1]
  show H1[b + a]? = some (vp_cell _ _)
  rw [e, i32_cl (by omega), vp_cell_i, vp_cell_i, arrV_store]
  congr 2
  funext q
  by_cases hq : q = i.toNat
  · subst hq
    simp [updV, upd]
  · simp [updV, upd, hq]
theorem r_aast {a v n t ci nn : Nat} {i : Int} (hdg : decode cc pc = .ok (.aastore, 1)) (ha : a < w.1) (hs : w.2.1 a = (100 + t, n)) (ht : (t = 2 ∧ ci = 3) ∨ (t = 3 ∧ ci = 5) ∨ (t = 4 ∧ ci = 1)) (hn : n ≤ 2147483647) (hi : 0 ≤ i ∧ i < n) (hv : v < w.1) (hsv : w.2.1 v = (ci, nn)) (k : WW cc own nL rt ini d mc ms Post uc us (pc + 1) ls st (setR w a i (some v))) : WW cc own nL rt ini d mc ms Post uc us pc ls (.inr (some v) :: .inl i :: .inr (some a) :: st) w := by
  intro l D dA b p e_ s m args below meth c H locs A hC hb0 hS hR hL
  have hK := hC.2.2.2.2.2.2.2.2.1
  have h2 : 2 ≤ t := by omega
  have hci : ci < 100 := by omega
  have hlt : (Int32.ofInt i).toNatClampNeg < n := by rw [i32_cl (by omega)]; omega
  have h0 : ¬ Int32.ofInt i < 0 := fun q => (i32_in hi hn) (Or.inl q)
  have go : ∀ r : vw_C, (tysA dA)[t]? = some (dA t, .object r.1) → cls9[ci]? = some r → W p l e_ (rmD d mc ms) s m args below meth c H locs uc us (MQ below (QP D dA b Post) args s mc ms (fun q => b ≤ q)) (F0 m pc A (.ref (b + v) :: .int (Int32.ofInt i) :: .ref (b + a) :: st.map (tv b))) := by
    intro r htt hcr
    obtain ⟨r', hr', cellV, g1, g2, g3, -⟩ := hR.1 v _ (wL_obj hv hsv hci)
    have hcls := (hK.1 ci r hcr).2
    obtain ⟨kA, comp, k1, k2, k3, -⟩ := (hK.2 t _ htt).2
    have hcomp : comp = D.1 ci := Option.some.inj (k3.symm.trans hcls.1)
    subst hcomp
    obtain ⟨kC, hkC, -⟩ := hcls.2
    refine W.aast hC.1 hC.2.1 (hR.1 a _ (wL_ref ha hs h2)) (fun q h => by cases h) (fun h => by cases h) k1 k2 rfl hkC ⟨h0, by show _ < (arrV _ _ _).slots.size; rw [arrV_size]; exact hlt⟩ g1 (fun q h => by rw [g3] at h; cases h) (by rw [g2]; exact hkC) (by rw [g2]; exact va_assign hcls) rfl rfl hdg fun H1 e z1 oq => ?_
    refine k l D dA b p e_ s m args below meth c H1 _ A hC hb0 (hS.put z1 oq (by show b ≤ b + a; omega)) (Rp_set hR ha rfl (fun q hq => wE_setR q hq) ?_ oq z1) hL
    rw [wE_rset hs h2 hi.1]
    show H1[b + a]? = some (vp_cell _ _)
    rw [e, i32_cl (by omega), vp_cell_q, vp_cell_q, arrV_store]
    congr 2
    funext q
    by_cases hq : q = i.toNat
    · subst hq
      simp [updV, va_up, va_rf]
    · simp [updV, va_up, hq]
  rcases ht with ⟨rfl, rfl⟩ | ⟨rfl, rfl⟩ | ⟨rfl, rfl⟩
  · exact go _ rfl rfl
  · exact go _ rfl rfl
  · exact go _ rfl rfl
theorem r_alen {a t n : Nat} (hdg : decode cc pc = .ok (.arraylength, 1)) (ha : a < w.1) (hs : w.2.1 a = (100 + t, n)) (ht : t < 2) (k : WW cc own nL rt ini d mc ms Post uc us (pc + 1) ls (.inl n :: st) w) : WW cc own nL rt ini d mc ms Post uc us pc ls (.inr (some a) :: st) w := by
  intro l D dA b p e_ s m args below meth c H locs A hC hb0 hS hR hL
  have hK := hC.2.2.2.2.2.2.2.2.1
  have k := k l D dA b p e_ s m args below meth c H locs A hC hb0 hS hR hL
  have e : Int32.ofNat n = Int32.ofInt n := (Int32.ofInt_eq_ofNat).symm
  rcases (show t = 0 ∨ t = 1 by omega) with rfl | rfl
  · exact va_alen hC.1 hC.2.1 hK hR.1 a 0 (wL_int (t := 0) ha hs (by omega)) (ty := .int) rfl e hdg k
  · exact va_alen hC.1 hC.2.1 hK hR.1 a 1 (wL_int (t := 1) ha hs (by omega)) (ty := .int) rfl e hdg k
/-! fields -/
def ClOk (ci : Nat) (C : String) (T : u_T) (N : Nat) : Prop := ci < 100 ∧ cls9[ci]? = some (C, T, N) ∧ (∀ q ∈ u_ws C T N, q ∈ lw_U) ∧ (∀ k, k < N → parseFieldDescriptor (T k).2.2.1 = some (tyC ci k)) ∧ (∀ a, a < N → ∀ b, b < N → a ≠ b → (T a).2.1 ≠ (T b).2.1) ∧ nF ci = N
def Fld (own : String) (idx ci j : Nat) (jz : Int) (num fin : Bool) : Prop := ∃ (C : String) (T : u_T) (N : Nat), ClOk ci C T N ∧ j < N ∧ Cond.fieldLink own idx C (T j).2.1 (T j).2.2.1 ∈ lw_U ∧ (T j).1 = C ∧ (T j).2.2.2 = fin ∧ isI (tyC ci j) = num ∧ (j : Int) = jz
theorem isI_int {t : FieldType} (h : isI t = true) : t = .int := by
  cases t <;> first | rfl | cases h
theorem r_getI {idx ci j a nn : Nat} {jz : Int} {fin : Bool} (hF : Fld own idx ci j jz true fin) (hdg : decode cc pc = .ok (.getfield idx, 3)) (ha : a < w.1) (hs : w.2.1 a = (ci, nn)) (k : WW cc own nL rt ini d mc ms Post uc us (pc + 3) ls (.inl (w.2.2.1 a jz) :: st) w) : WW cc own nL rt ini d mc ms Post uc us pc ls (.inr (some a) :: st) w := by
  intro l D dA b p e_ s m args below meth c H locs A hC hb0 hS hR hL
  have k := k l D dA b p e_ s m args below meth c H locs A hC hb0 hS hR hL
  obtain ⟨C, T, N, ⟨hc100, hcl, hin, hty, hnm, hNF⟩, hj, hlink, hdecl, hfin, hnum, rfl⟩ := hF
  refine va_get hC.1 hC.2.1 hC.2.2.2.2.2.2.2.1 hin hC.2.2.2.2.2.2.1 hC.2.2.2.2.2.2.2.2.1 hR.1 a (wL_obj ha hs hc100) hcl j hj (hC.2.2.2.2.2.2.2.1 _ hlink) (fun x hx => by rw [hdecl] at hx; exact hx) (v := .int (Int32.ofInt (w.2.2.1 a j))) ?_ hdg k
  rw [wF_get (by omega)]
  unfold fV
  rw [if_pos hnum]
theorem r_getR {idx ci j a nn r : Nat} {jz : Int} {fin : Bool} (hF : Fld own idx ci j jz false fin) (hdg : decode cc pc = .ok (.getfield idx, 3)) (ha : a < w.1) (hs : w.2.1 a = (ci, nn)) (hr : w.2.2.2 a jz = some r) (k : WW cc own nL rt ini d mc ms Post uc us (pc + 3) ls (.inr (some r) :: st) w) : WW cc own nL rt ini d mc ms Post uc us pc ls (.inr (some a) :: st) w := by
  intro l D dA b p e_ s m args below meth c H locs A hC hb0 hS hR hL
  have k := k l D dA b p e_ s m args below meth c H locs A hC hb0 hS hR hL
  obtain ⟨C, T, N, ⟨hc100, hcl, hin, hty, hnm, hNF⟩, hj, hlink, hdecl, hfin, hnum, rfl⟩ := hF
  refine va_get hC.1 hC.2.1 hC.2.2.2.2.2.2.2.1 hin hC.2.2.2.2.2.2.1 hC.2.2.2.2.2.2.2.2.1 hR.1 a (wL_obj ha hs hc100) hcl j hj (hC.2.2.2.2.2.2.2.1 _ hlink) (fun x hx => by rw [hdecl] at hx; exact hx) (v := va_rf (some (b + r))) ?_ hdg k
  rw [wF_get (by omega)]
  unfold fV
  rw [if_neg (by rw [hnum]; decide), hr]
  rfl
/-- a store into a field, whatever it is: the heap behind it -/
theorem put_go {cc : ByteArray} {own : String} {nL : Nat} {rt : Option FieldType} {ini : Bool} {D : va_G} {dA : Nat → ClassId} {b : Nat} {p : Program} {l : Launch} {e_ : Env} {R : Room} {s : State} {m : MethodId} {args : Array Value} {below : List Frame} {meth : Method} {c : Code} {H : Heap} {locs : List Loc} {cells slots : Nat} {Q : State → Prop} {pc idx ci j a nn : Nat} {A : Array Slot} {rest : List Value} {w w' : Wd} {jz : Int} {num fin : Bool} {v : Value}
    (hC : Cx cc own nL rt ini D dA p s m args meth c) (hS : va_S (fun q => b ≤ q) s.heap H locs) (hR : Rp D dA b w H) (hF : Fld own idx ci j jz num fin) (hdg : decode cc pc = .ok (.putfield idx, 3)) (ha : a < w.1) (hs : w.2.1 a = (ci, nn)) (hini : fin = true → ini = true ∧ ∃ C T N, ClOk ci C T N ∧ C = own) (hnv : narrow (tyC ci j) v = v) (hfv : fits (tyC ci j) v = true)
    (h1 : w'.1 = w.1) (h2 : w'.2.1 = w.2.1) (hn : ∀ q, q ≠ a → wE b dA w' q = wE b dA w q) (he : wF b w' a ci = (wF b w a ci).set j v)
    (kk : ∀ (H1 : Heap) (locs1 : List Loc), va_S (fun q => b ≤ q) s.heap H1 locs1 → Rp D dA b w' H1 → W p l e_ R s m args below meth c H1 locs1 cells slots Q (F0 m (pc + 3) A rest)) : W p l e_ R s m args below meth c H locs cells slots Q (F0 m pc A (v :: .ref (b + a) :: rest)) := by
  obtain ⟨C, T, N, ⟨hc100, hcl, hin, hty, hnm, hNF⟩, hj, hlink, hdecl, hfin, hnum, hjz⟩ := hF
  obtain ⟨hx, hb, hml, hrt, hlk, hin2, hown, hts, hE⟩ := hC
  have hK := hE.1
  have hap := va_apart (own := own) hts hin (tyC ci) hty hnm hK hcl
  obtain ⟨r, hr1, cell, q1, q2, q3, q4⟩ := hR.1 a _ (wL_obj ha hs hc100)
  have hr : r = (C, T, N) := Option.some.inj (hr1.symm.trans hcl)
  subst hr
  obtain ⟨hSl, hfc, kC, hkC, hkind⟩ := hK.1 ci _ hcl
  obtain ⟨cf, kf, fi, f, hi, hsl⟩ := hSl j hj
  have hlay := hts _ (hin _ (u_in_lay hj))
  have hst := (u_facts hfc hkC (u_lays hts hin hj) hi).1
  have hl : j < (wF b w a ci).length := by simp [wF]; omega
  have hi' : s.fieldFound? C (T j).2.1 (T j).2.2.1 = some (cf, kf, fi, f) := by rw [← hdecl]; exact hi
  have fin_go : ∀ H' : Heap, H'[b + a]? = some (cell.setSlot f.slot v) → H'.size = H.size → (∀ q, q ≠ b + a → H'[q]? = H[q]?) → W p l e_ R s m args below meth c H' (locs ++ [⟨b + a, f.slot⟩]) cells slots Q (F0 m (pc + 3) A rest) := by
    intro H' e1 e2 e3
    rw [hsl] at e1 ⊢
    refine kk H' _ (hS.put e2 e3 (by show b ≤ b + a; omega)) (Rp_set hR ha h1 hn ?_ e3 e2)
    have e9 : wE b dA w' a = .inr (ci, (wF b w a ci).set j v) := by
      unfold wE
      rw [h2, hs, if_pos hc100, he]
    rw [e9]
    exact ⟨_, hcl, t_OB.to (V := updV (vp_V (wF b w a ci)) j v) ⟨_, e1, q2, q3, t_set q4 hap hj v⟩ (fun x _ => vp_updV_set hl v x)⟩
  unfold u_lay at hlay
  cases hf0 : fin with
  | false =>
    rw [if_neg (by rw [hfin, hf0]; decide)] at hlay
    have h6 := u_store hfc hkC hkind hlay hi (hty j hj) hnv hfv
    exact W.putK hx hb (f := f) ⟨hown, hts _ hlink, ⟨_, _, _, hi'⟩, hst⟩ (by rw [q2]; exact h6) q1 q3 (by rw [hsl]; exact k2_hasslot (q4 j hj)) rfl rfl hdg fin_go
  | true =>
    rw [if_pos (by rw [hfin, hf0])] at hlay
    obtain ⟨hi1, C', T', N', hcl', hCo⟩ := hini hf0
    have hCown : C = own := by
      have h9 := hcl'.2.1.symm.trans hcl
      have h8 : C' = C := congrArg Prod.fst (Option.some.inj h9)
      rw [← h8, hCo]
    have hcf : m.cls = cf := by
      obtain ⟨_, _, c', _, _, _, -, -, hf', -, -, -, hown2, -⟩ := Cond.laysFinal_spec hlay
      have e1 : c' = cf := by have := hi.symm.trans hf'; simp at this; exact this.1.symm
      rw [hdecl, hCown] at hown2
      rw [← e1]; exact Option.some.inj (hown.symm.trans hown2)
    have h6 := u_fits hfc hkC hkind (Or.inr hlay) hi (hty j hj) hnv hfv
    exact W.putFinK hx hb hown (hts _ hlink) hi' hst hcf (hin2 hi1) (by rw [q2]; exact h6) q1 q3 (by rw [hsl]; exact k2_hasslot (q4 j hj)) rfl rfl hdg fin_go
theorem r_putI {idx ci j a nn : Nat} {jz z : Int} (hF : Fld own idx ci j jz true false) (hdg : decode cc pc = .ok (.putfield idx, 3)) (ha : a < w.1) (hs : w.2.1 a = (ci, nn)) (k : WW cc own nL rt ini d mc ms Post uc us (pc + 3) ls st (setI w a jz z)) : WW cc own nL rt ini d mc ms Post uc us pc ls (.inl z :: .inr (some a) :: st) w := by
  intro l D dA b p e_ s m args below meth c H locs A hC hb0 hS hR hL
  have hF2 := hF
  obtain ⟨C, T, N, ⟨-, -, -, -, -, hNF⟩, hj, -, -, -, hnum, rfl⟩ := hF2
  have hti := isI_int hnum
  exact put_go hC hS hR hF hdg ha hs (fun h => by cases h) (by rw [hti]; rfl) (by rw [hti]; rfl) (w' := setI w a j z) rfl rfl (fun q hq => wE_setI q hq) (wF_setI (by omega) hnum) (fun H1 locs1 hS1 hR1 => k l D dA b p e_ s m args below meth c H1 locs1 A hC hb0 hS1 hR1 hL)
theorem r_putR {idx ci j a nn r : Nat} {jz : Int} {fin : Bool} (hF : Fld own idx ci j jz false fin) (hdg : decode cc pc = .ok (.putfield idx, 3)) (ha : a < w.1) (hs : w.2.1 a = (ci, nn)) (hini : fin = true → ini = true ∧ ∃ C T N, ClOk ci C T N ∧ C = own) (hty : (∃ n, tyC ci j = .object n) ∨ ∃ n, tyC ci j = .array n) (k : WW cc own nL rt ini d mc ms Post uc us (pc + 3) ls st (setR w a jz (some r))) : WW cc own nL rt ini d mc ms Post uc us pc ls (.inr (some r) :: .inr (some a) :: st) w := by
  intro l D dA b p e_ s m args below meth c H locs A hC hb0 hS hR hL
  have hF2 := hF
  obtain ⟨C, T, N, ⟨-, -, -, -, -, hNF⟩, hj, -, -, -, hnum, rfl⟩ := hF2
  exact put_go hC hS hR hF hdg ha hs hini (by rcases hty with ⟨n, h⟩ | ⟨n, h⟩ <;> rw [h] <;> rfl) (by rcases hty with ⟨n, h⟩ | ⟨n, h⟩ <;> rw [h] <;> rfl) (w' := setR w a j (some r)) rfl rfl (fun q hq => wE_setR q hq) (wF_setR (by omega) hnum) (fun H1 locs1 hS1 hR1 => k l D dA b p e_ s m args below meth c H1 locs1 A hC hb0 hS1 hR1 hL)
end RW
