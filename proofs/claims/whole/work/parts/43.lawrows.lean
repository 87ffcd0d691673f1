/-! THE CLAIM OUT OF ONE WALK OF THE LAW'S BODY. Your part is whole_start (and what it stands on); all else here is the same for every law, but numbers. -/
def R_law : String := "TabLinesLaw"
def lw_P (b : Addr) (xs : List Int32) (args : Array Value) (s : State) : Prop := args = #[.ref b] ∧ s.IntsAt b xs ∧ xs.length ≤ 2560 ∧ (Jvm.Cond.and given_1 narrow_1).before args s = true
def lw_Q (_ : Array Value) (s : State) (o : Outcome) (t : State) : Prop := o = .returned (some (.int 1)) ∧ Framed s o t [] 600000 7302250
def lw_Z (below : List Frame) (a : Array Value) (s : State) : State → Prop := fun t => ∃ o, t.status = .running ∧ Ended t below o ∧ lw_Q a s o t
/-- the law's own end, with 1 on the stack, nothing written that was there before, its room as the claim has it -/
theorem lw_ret {p : Program} {l : Launch} {e : Env} {s : State} {m : MethodId} {below : List Frame} {meth : Method} {c : Code} {b : Nat} (hx : p.tables.exec = Jvm.exec) (hb : c.code = code) (hr : meth.sig.returnType = ret) (hlocks : meth.locks = false) {pc : Nat} {H : Heap} {ls : Array Slot} (hdg : decode code pc = .ok (.ireturn, 1)) : W p l e room_1 s m #[Value.ref b] below meth c H [] 600000 7302250 (lw_Z below #[Value.ref b] s) (F0 m pc ls [.int 1]) := by
  intro T hT X
  obtain ⟨fs, hret, hrun, hended, hW, hframe⟩ := X.leave (v := some (.int 1)) (hlocks := hlocks) (fun h => by rw [hr] at h; cases h)
  have hmeth' : T.vm.method? m = some meth := X.method'
  refine ⟨T.setFrames fs, ?_, .returned (some (.int 1)), hrun, hended, rfl, ⟨_, rfl⟩, hW, hframe⟩
  jvm_step X.here [X.here.top, hx, hb, hdg, hmeth', hr, ret, narrow_b1]
  (try refine ⟨rfl, ?_⟩); (try refine ⟨rfl, ?_⟩)
  first | (intro acts; rw [hret _ acts rfl rfl rfl]) | rw [hret _ _ rfl rfl rfl]
  exact Steps.refl _
/-- what holds at the law's entry: the machine, the code, the tables' words (any of lw_tbl by 'hts w (by decide +kernel)'), the script of L ints xs at the cell b, what the Statement gives of the start (any of its parts by flat_of_before) -/
def lw_At (p : Program) (s : State) (m : MethodId) (meth : Method) (c : Code) (b L : Nat) (xs : Nat → Int32) : Prop :=
  p.tables.exec = Jvm.exec ∧ c.code = code ∧ meth.sig.returnType = ret ∧ c.maxLocals = 4 ∧ s.vm.findClass R_law = some m.cls ∧ (∀ w ∈ lw_tbl, w.before #[Value.ref b] s = true) ∧ va_X b L xs s s.heap ∧ b < s.heap.size ∧ meth.locks = false ∧ (Jvm.Cond.and given_1 narrow_1).before #[Value.ref b] s = true
/-! the law's own rows: its script, its two objects, its place -/
theorem lt_U {w : Cond} (h : w ∈ lw_U) : w ∈ lw_tbl := (List.mem_filter.mp h).1
theorem rgx (x : Int32) : -2147483648 ≤ x.toInt ∧ x.toInt ≤ 2147483647 := by
  have h1 := Int32.le_toInt x
  have h2 := Int32.toInt_lt x
  omega
theorem tv_x (b : Nat) (x : Int32) : tv b (.inl x.toInt) = .int x := by
  show Value.int (Int32.ofInt x.toInt) = _
  rw [Int32.ofInt_toInt]
section LWJ
variable {p : Program} {l : Launch} {e_ : Env} {s : State} {m : MethodId} {below : List Frame} {meth : Method} {c : Code} {sb L : Nat} {xs : Nat → Int32} {D : va_G} {dA : Nat → ClassId}
def LX (p : Program) (s : State) (m : MethodId) (meth : Method) (c : Code) (sb L : Nat) (xs : Nat → Int32) (D : va_G) (dA : Nat → ClassId) : Prop := lw_At p s m meth c sb L xs ∧ EnvK D dA s ∧ L ≤ 2560
abbrev lwL (B sb i : Nat) : List (Nat × Value) := [(0, .ref sb), (1, .ref B), (2, .ref (B + 290)), (3, .int (Int32.ofInt (i : Int)))]
def LJ (p : Program) (l : Launch) (e_ : Env) (s : State) (m : MethodId) (below : List Frame) (meth : Method) (c : Code) (sb : Nat) (D : va_G) (dA : Nat → ClassId) (pc i : Nat) (st : List MV) (w : Wd) : Prop :=
  ∀ (H : Heap) (locs : List Loc) (ls : Array Slot), va_S (fun q => s.heap.size ≤ q) s.heap H locs → Rp D dA s.heap.size w H → lv_has ls 4 (lwL s.heap.size sb i) →
    W p l e_ room_1 s m #[Value.ref sb] below meth c H locs 298 28229 (lw_Z below #[Value.ref sb] s) (F0 m pc ls (st.map (tv s.heap.size)))
theorem lj_x (hX : LX p s m meth c sb L xs D dA) {pc i : Nat} {st : List MV} {w : Wd} (hdg : decode code pc = .ok (.aload_n 1, 1)) (k : LJ p l e_ s m below meth c sb D dA (pc + 1) i (.inr (some 0) :: st) w) : LJ p l e_ s m below meth c sb D dA pc i st w := by
  intro H locs ls hS hR hl
  obtain ⟨hx, hb, -⟩ := hX.1
  exact lv_aload_n hx hb hdg rfl (lv_at hl 1 rfl) (k H locs ls hS hR hl)
theorem lj_m (hX : LX p s m meth c sb L xs D dA) {pc i : Nat} {st : List MV} {w : Wd} (hdg : decode code pc = .ok (.aload_n 2, 1)) (k : LJ p l e_ s m below meth c sb D dA (pc + 1) i (.inr (some 290) :: st) w) : LJ p l e_ s m below meth c sb D dA pc i st w := by
  intro H locs ls hS hR hl
  obtain ⟨hx, hb, -⟩ := hX.1
  exact lv_aload_n hx hb hdg rfl (lv_at hl 2 rfl) (k H locs ls hS hR hl)
theorem lj_ld (hX : LX p s m meth c sb L xs D dA) {pc i kk : Nat} {n : Int} {st : List MV} {w : Wd} (h0 : decode code pc = .ok (.aload_n 0, 1)) (h1 : decode code (pc + 1) = .ok (.iload_n 3, 1)) (h2 : decode code (pc + 2) = .ok (.iconst n, 1)) (h3 : decode code (pc + 3) = .ok (.iadd, 1)) (h4 : decode code (pc + 4) = .ok (.iaload, 1)) (hn : n = (kk : Int)) (hi : i + kk < L) (k : LJ p l e_ s m below meth c sb D dA (pc + 5) i (.inl (xs (i + kk)).toInt :: st) w) : LJ p l e_ s m below meth c sb D dA pc i st w := by
  intro H locs ls hS hR hl
  obtain ⟨hx, hb, hr, hml, hown, hts, hXs, hbl, hlocks, hgv⟩ := hX.1
  have hL := hX.2.2
  refine lv_aload_n hx hb h0 rfl (lv_at hl 0 rfl) ?_
  refine lv_iload_n hx hb h1 rfl (lv_at hl 3 rfl) ?_
  refine lv_iconst hx hb h2 rfl ?_
  refine lv_iadd hx hb h3 ?_
  have e : Int32.ofInt (i : Int) + Int32.ofInt n = Int32.ofInt ((i + kk : Nat) : Int) := by
    rw [hn, ← Int32.ofInt_add]
    rfl
  rw [e]
  have hc : (Int32.ofInt ((i + kk : Nat) : Int)).toNatClampNeg = i + kk := by
    rw [i32_cl (by omega)]
    exact Int.toNat_natCast _
  refine va_sld hx hb hXs hbl (Nat.not_le.mpr hbl) hS (i32_in (by omega) (by omega)) h4 ?_
  rw [hc, ← tv_x s.heap.size]
  exact k H locs ls hS hR hl
theorem lj_call (hX : LX p s m meth c sb L xs D dA) {pc i idx n d' ci a nn : Nat} {y : MethodName} {cy : ByteArray} {nLy : Nat} {rty : Option FieldType} {As st0 st : List MV} {Post' : Option MV → Wd → Prop} {w : Wd} (hL' : LkV "TabLinesLaw" idx ci y cy nLy rty n) (hdg : decode code pc = .ok (.invokevirtual idx, 3)) (hM : CC d' 0 0 y cy nLy rty (.inr (some a) :: As) w Post') (hd : d' ≤ 8) (ha : Shp w.1 w.2.1 a ci nn) (hn : As.length = n) (hst : st0 = As.reverse ++ .inr (some a) :: st) (h8 : st.length ≤ 8) (k : ∀ (r : Option MV) (w' : Wd), Post' r w' → LJ p l e_ s m below meth c sb D dA (pc + 3) i (r.toList ++ st) w') : LJ p l e_ s m below meth c sb D dA pc i st0 w := by
  intro H locs ls hS hR hl
  obtain ⟨hx, hb, hr, hml, hown, hts, hXs, hbl, hlocks, hgv⟩ := hX.1
  exact raw_callV (R := room_1) (cc := code) (nL := 4) (own := "TabLinesLaw") hx hb hml hown (fun q hq => hts q (lt_U hq)) hX.2.1 hl.1 hS hR hL' hM ⟨by show d' + 1 ≤ 10; omega, by show 39 + 40 * d' ≤ 384; omega⟩ ha.1 ha.2 hn hst h8 hdg ⟨Nat.le_of_ble_eq_true rfl, Nat.le_of_ble_eq_true rfl⟩ (fun r w' H1 locs1 hP hS1 hR1 => k r w' hP H1 locs1 ls hS1 hR1 hl)
theorem lj_eq (hX : LX p s m meth c sb L xs D dA) {pc i tgt : Nat} {off z : Int} {st : List MV} {w : Wd} (hdg : decode code pc = .ok (.if_icmp .eq off, 3)) (ht : (pc : Int) + off = (tgt : Int)) (k : LJ p l e_ s m below meth c sb D dA tgt i st w) : LJ p l e_ s m below meth c sb D dA pc i (.inl z :: .inl z :: st) w := by
  intro H locs ls hS hR hl
  obtain ⟨hx, hb, -⟩ := hX.1
  exact lv_icmp_eq hx hb hdg ht (fun _ => k H locs ls hS hR hl) (fun h => absurd rfl h)
end LWJ
