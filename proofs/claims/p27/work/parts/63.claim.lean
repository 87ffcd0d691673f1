/-! THE CLAIM OUT OF ONE WALK OF THE LAW'S BODY. Your part is whole_start (and what it stands on); all else here is the same for every law, but numbers. -/
def R_law : String := "TabLinesLaw"
def lw_P (b : Addr) (xs : List Int32) (args : Array Value) (s : State) : Prop := args = #[.ref b] ∧ s.IntsAt b xs ∧ xs.length ≤ 260 ∧ (Jvm.Cond.and given_1 narrow_1).before args s = true
def lw_Q (_ : Array Value) (s : State) (o : Outcome) (t : State) : Prop := o = .returned (some (.int 1)) ∧ Framed s o t [] 600000 7302250
def lw_Z (below : List Frame) (a : Array Value) (s : State) : State → Prop := fun t => ∃ o, t.status = .running ∧ Ended t below o ∧ lw_Q a s o t
/-- the law's own end, with 1 on the stack, nothing written that was there before, its room as the claim has it -/
theorem lw_ret {p : Program} {l : Launch} {e : Env} {s : State} {m : MethodId} {below : List Frame} {meth : Method} {c : Code} {b : Nat} (hx : p.tables.exec = Jvm.exec) (hb : c.code = code) (hr : meth.sig.returnType = ret) (hlocks : meth.locks = false) {pc : Nat} {H : Heap} {ls : Array Slot} (hdg : decode code pc = .ok (.ireturn, 1)) : W p l e room_1 s m #[Value.ref b] below meth c H [] 600000 7302250 (lw_Z below #[Value.ref b] s) (F0 m pc ls [.int 1]) := by
  intro T hT X
  obtain ⟨fs, hret, hrun, hended, hW, hframe⟩ := X.leave (v := some (.int 1)) (hlocks := hlocks) (fun h => by rw [hr] at h; cases h)
  have hmeth' : T.vm.method? m = some meth := X.method'
  refine ⟨T.setFrames fs, ?_, .returned (some (.int 1)), hrun, hended, rfl, ⟨_, rfl⟩, hW, hframe⟩
  jvm_step X.here [X.here.top, hx, hb, hdg, hmeth', hr, ret, narrow_b1]
  (try refine ⟨rfl, ?_⟩); (try refine ⟨rfl, ?_⟩)
  first | (intro acts; rw [hret _ acts rfl rfl rfl]) | rw [hret _ _ rfl rfl rfl]
  exact Steps.refl _
/-- what holds at the law's entry: the machine, the code, the tables' words (any of lw_tbl by 'hts w (by decide +kernel)'), the script of L ints xs at the cell b, what the Statement gives of the start (any of its parts by flat_of_before) -/
def lw_At (p : Program) (s : State) (m : MethodId) (meth : Method) (c : Code) (b L : Nat) (xs : Nat → Int32) : Prop :=
  p.tables.exec = Jvm.exec ∧ c.code = code ∧ meth.sig.returnType = ret ∧ c.maxLocals = 19 ∧ s.vm.findClass R_law = some m.cls ∧ (∀ w ∈ lw_tbl, w.before #[Value.ref b] s = true) ∧ va_X b L xs s s.heap ∧ b < s.heap.size ∧ meth.locks = false ∧ (Jvm.Cond.and given_1 narrow_1).before #[Value.ref b] s = true
theorem lt_U {w : Cond} (h : w ∈ lw_U) : w ∈ lw_tbl := (List.mem_filter.mp h).1
/-! what the tables say at the law's start -/
theorem env_cls {s : State} {args : Array Value} (hts : ∀ w ∈ lw_tbl, w.before args s = true) : ∃ D : va_G, ∀ (k : Nat) (q : vw_C), cls9[k]? = some q → u_Kn s q.1 q.2.1 q.2.2 (D.1 k) (D.2 k) := by
  have h : ∀ k : Nat, ∃ (cC : ClassId) (iS : Nat → Nat), ∀ q : vw_C, cls9[k]? = some q → u_Kn s q.1 q.2.1 q.2.2 cC iS := by
    intro k
    match k with
    | 0 =>
      obtain ⟨cC, iS, h⟩ := u_known (C := RX0) (T := TX0) (N := 12) (n := 12) hts (fun w hw => lt_U (inU_0 w hw)) (hts _ (lt_U nw_X7_31.2.2.1))
      exact ⟨cC, iS, fun q hq => by cases hq; exact h⟩
    | 1 =>
      obtain ⟨cC, iS, h⟩ := u_known (C := RX1) (T := TX1) (N := 3) (n := 3) hts (fun w hw => lt_U (inU_1 w hw)) (hts _ (lt_U nw_X3_24.2.2.1))
      exact ⟨cC, iS, fun q hq => by cases hq; exact h⟩
    | 2 =>
      obtain ⟨cC, iS, h⟩ := u_known (C := RX2) (T := TX2) (N := 6) (n := 6) hts (fun w hw => lt_U (inU_2 w hw)) (hts _ (lt_U nw_X0_18.2.2.1))
      exact ⟨cC, iS, fun q hq => by cases hq; exact h⟩
    | 3 =>
      obtain ⟨cC, iS, h⟩ := u_known (C := RX3) (T := TX3) (N := 5) (n := 5) hts (fun w hw => lt_U (inU_3 w hw)) (hts _ (lt_U nw_X7_9.2.2.1))
      exact ⟨cC, iS, fun q hq => by cases hq; exact h⟩
    | 4 =>
      obtain ⟨cC, iS, h⟩ := u_known (C := RX4) (T := TX4) (N := 4) (n := 4) hts (fun w hw => lt_U (inU_4 w hw)) (hts _ (lt_U nw_X7_24.2.2.1))
      exact ⟨cC, iS, fun q hq => by cases hq; exact h⟩
    | 5 =>
      obtain ⟨cC, iS, h⟩ := u_known (C := RX5) (T := TX5) (N := 3) (n := 3) hts (fun w hw => lt_U (inU_5 w hw)) (hts _ (lt_U nw_X3_18.2.2.1))
      exact ⟨cC, iS, fun q hq => by cases hq; exact h⟩
    | 6 =>
      obtain ⟨cC, iS, h⟩ := u_known (C := RX6) (T := TX6) (N := 6) (n := 6) hts (fun w hw => lt_U (inU_6 w hw)) (hts _ (lt_U nw_X0_9.2.2.1))
      exact ⟨cC, iS, fun q hq => by cases hq; exact h⟩
    | 7 =>
      obtain ⟨cC, iS, h⟩ := u_known (C := RX7) (T := TX7) (N := 7) (n := 7) hts (fun w hw => lt_U (inU_7 w hw)) (hts _ (lt_U nw_L_13.2.2.1))
      exact ⟨cC, iS, fun q hq => by cases hq; exact h⟩
    | k + 8 => exact ⟨0, fun _ => 0, fun q hq => by simp at hq⟩
  exact ⟨(fun k => Classical.choose (h k), fun k => Classical.choose (Classical.choose_spec (h k))), fun k q hq => Classical.choose_spec (Classical.choose_spec (h k)) q hq⟩
theorem env_nest {s : State} {args : Array Value} (hts : ∀ w ∈ lw_tbl, w.before args s = true) : ∀ q ∈ nestT, va_Nw (.methodLinkNest q.1 q.2.1 q.2.2.1 q.2.2.2) s := by
  have g : ∀ (i : Nat) (w : Cond), lw_tbl[i]? = some w → w.onTables = true → va_Nw w s := fun i w h ho => va_Nw.of ho (hts w (List.mem_of_getElem? h))
  intro q hq
  simp only [nestT, List.mem_cons, List.not_mem_nil, or_false] at hq
  rcases hq with rfl | rfl | rfl | rfl | rfl | rfl | rfl | rfl | rfl | rfl | rfl | rfl
  · exact g 46 _ (by decide +kernel) rfl
  · exact g 67 _ (by decide +kernel) rfl
  · exact g 108 _ (by decide +kernel) rfl
  · exact g 113 _ (by decide +kernel) rfl
  · exact g 127 _ (by decide +kernel) rfl
  · exact g 133 _ (by decide +kernel) rfl
  · exact g 160 _ (by decide +kernel) rfl
  · exact g 279 _ (by decide +kernel) rfl
  · exact g 352 _ (by decide +kernel) rfl
  · exact g 418 _ (by decide +kernel) rfl
  · exact g 510 _ (by decide +kernel) rfl
  · exact g 544 _ (by decide +kernel) rfl
theorem arrOfT_k {s : State} {cA comp : ClassId} {k : Class} {ty : FieldType} (hk : s.vm.classes[cA]? = some k) (hkd : k.kind = .array comp ty) : ArrOfT s cA ty := fun n z => ⟨fun q h => (by cases h), k, hk, comp, hkd⟩
theorem env_start {s : State} {args : Array Value} (hts : ∀ w ∈ lw_tbl, w.before args s = true) : ∃ (D : va_G) (dA : Nat → ClassId), EnvK D dA s := by
  obtain ⟨D, hD⟩ := env_cls hts
  have hN := env_nest hts
  have o3 : (Cond.arrayOver (.object RX3)).before args s = true := hts (.arrayOver (.object RX3)) (List.mem_of_getElem? (i := 105) (by decide +kernel))
  have o5 : (Cond.arrayOver (.object RX5)).before args s = true := hts (.arrayOver (.object RX5)) (List.mem_of_getElem? (i := 42) (by decide +kernel))
  have o1 : (Cond.arrayOver (.object RX1)).before args s = true := hts (.arrayOver (.object RX1)) (List.mem_of_getElem? (i := 44) (by decide +kernel))
  have oA : (Cond.arrayOver (.array .int)).before args s = true := hts (.arrayOver (.array .int)) (List.mem_of_getElem? (i := 184) (by decide +kernel))
  obtain ⟨cI, kI, eI, fI, gI, jI⟩ := Cond.arrayClass_spec (hts _ (lt_U ac_int))
  obtain ⟨e3, c3, k3, f3, i3, g3, j3, n3⟩ := Cond.arrayOver_spec o3
  obtain ⟨e5, c5, k5, f5, i5, g5, j5, n5⟩ := Cond.arrayOver_spec o5
  obtain ⟨e1, c1, k1, f1, i1, g1, j1, n1⟩ := Cond.arrayOver_spec o1
  obtain ⟨eA, cA, kA, fA, iA, gA, jA, nA⟩ := arrayOverA_spec oA
  have hIA : eA = cI := Option.some.inj (fA.symm.trans fI)
  subst hIA
  refine ⟨D, fun k => match k with | 0 => eA | 1 => eA | 2 => c3 | 3 => c5 | 4 => c1 | _ => cA, ⟨hD, fun k q hq => ?_⟩, hN, va_AO.of o3, va_AO.of o5, va_AO.of o1, ⟨kA, kI, eI, gA, jA, gI, jI⟩⟩
  match k, hq with
  | 0, hq => cases hq; exact ⟨arrOfT_k gI jI, fI⟩
  | 1, hq => cases hq; exact ⟨arrOfT_k gI jI, fI⟩
  | 2, hq => cases hq; exact ⟨arrOfT_k g3 j3, k3, e3, g3, j3, f3, n3⟩
  | 3, hq => cases hq; exact ⟨arrOfT_k g5 j5, k5, e5, g5, j5, f5, n5⟩
  | 4, hq => cases hq; exact ⟨arrOfT_k g1 j1, k1, e1, g1, j1, f1, n1⟩
  | 5, hq => cases hq; exact ⟨arrOfT_k gA jA, nA⟩
  | k + 6, hq => simp [tysA] at hq
/-! the law from its entry, and the claim -/
theorem Rp_0 {D : va_G} {dA : Nat → ClassId} {H : Heap} : Rp D dA H.size (0, ShF, Iz, Rz) H := ⟨fun k q hq => by simp [wL] at hq, rfl⟩
set_option maxHeartbeats 4000000 in
set_option maxRecDepth 100000 in
theorem whole_start {p : Program} {e : Env} {s : State} {m : MethodId} {below : List Frame} {meth : Method} {c : Code} (l : Launch) (hflags : l.flags = flags0) {b L : Nat} {xs : Nat → Int32} (hL : L ≤ 260) (C0 : lw_At p s m meth c b L xs) : W p l e room_1 s m #[Value.ref b] below meth c s.heap [] 0 0 (lw_Z below #[Value.ref b] s) (entryFrame m ([Value.ref b] : List Value).toArray 19) := by
  obtain ⟨hx, hb, hr, hml, hown, hts, hXs, hbl, hlocks, hgv⟩ := id C0
  obtain ⟨D, dA, hE⟩ := env_start hts
  have hU : ∀ q ∈ lw_U, q.before #[Value.ref b] s = true := fun q hq => hts q (lt_U hq)
  have hS : va_S (fun q : Nat => s.heap.size ≤ q) s.heap s.heap [] := va_S.rf
  have hR : Rp D dA s.heap.size (0, ShF, Iz, Rz) s.heap := Rp_0
  have hl := lv_entry ([.ref b]) (n := 19) (Nat.le_of_ble_eq_true rfl)
  rw [lg_entry_eq]
  generalize (lg_sl ([.ref b]) ++ List.replicate (19 - (lg_sl ([.ref b])).length) Slot.unset).toArray = ls at hl ⊢
  have hl : lv_has ls 19 [(0, .ref b)] := hl
  have nwq : ∀ {idx ci F N : Nat} {C : String} {I : Mem} {R : RMem} {H : Heap} {locs : List Loc} {pc cells slots : Nat} {ls : Array Slot} {st : List MV}, NwOk "TabLinesLaw" idx ci C F → decode code pc = .ok (.new idx, 3) → cells + 1 ≤ 600000 ∧ slots + F ≤ 7302250 → ShF N = (ci, 0) → Cl N I R → va_S (fun q : Nat => s.heap.size ≤ q) s.heap H locs → Rp D dA s.heap.size (N, ShF, I, R) H →
      (∀ H1 : Heap, va_S (fun q : Nat => s.heap.size ≤ q) s.heap H1 locs → Rp D dA s.heap.size (N + 1, ShF, I, R) H1 → W p l e room_1 s m #[Value.ref b] below meth c H1 locs (cells + 1) (slots + F) (lw_Z below #[Value.ref b] s) (F0 m (pc + 3) ls ((.inr (some N) :: st).map (tv s.heap.size)))) → W p l e room_1 s m #[Value.ref b] below meth c H locs cells slots (lw_Z below #[Value.ref b] s) (F0 m pc ls (st.map (tv s.heap.size))) := by
    intro idx ci F N C I R H locs pc cells slots ls st hN hdg hf hsh hc hS hR k
    obtain ⟨⟨T, hc100, hcl, hin, hty, hnm, hNF⟩, hl1, hl2, hl3, hdef⟩ := hN
    have hKn := hE.1.1 ci _ hcl
    refine W.newcK hx hb hown (hU _ hl1) (hU _ hl2) (hU _ hl3) rfl hdg hf.1 hf.2 hKn.2.1 rfl fun H1 kC hkC e1 z1 o1 => ?_
    have e9 : wE s.heap.size dA (newW (N, ShF, I, R) ci 0) N = .inr (ci, wF s.heap.size (newW (N, ShF, I, R) ci 0) N ci) := by
      unfold wE
      rw [show (newW (N, ShF, I, R) ci 0).2.1 N = (ci, 0) from if_pos rfl, if_pos hc100]
    have hR1 : Rp D dA s.heap.size (newW (N, ShF, I, R) ci 0) H1 := by
      refine Rp_new hR z1 o1 ?_
      show va_at D cls9 (s.heap.size + N, wE s.heap.size dA (newW (N, ShF, I, R) ci 0) N) H1
      rw [e9, show s.heap.size + N = H.size from hR.2.symm]
      exact ⟨_, hcl, (u_born (tyC ci) hU hin hKn hkC e1 hty).to (wF_def (fun j => if_pos rfl) (fun j => if_pos rfl) (tyC ci) F hNF (fun j _ => rfl) hdef)⟩
    rw [newW_eq hsh hc] at hR1
    rw [show H.size = s.heap.size + N from hR.2]
    exact k H1 (hS.new z1 o1) hR1
  refine nwq (st := []) nw_L_13 dL_law_0 ⟨Nat.le_of_ble_eq_true rfl, Nat.le_of_ble_eq_true rfl⟩ rfl Cl_z hS hR (fun H hS hR => ?_)
  refine lv_dup hx hb dL_law_3 rfl ?_
  refine raw_callI (R := room_1) (cc := code) (nL := 19) (own := "TabLinesLaw") (As := []) (st := [.inr (some 0)]) (st0 := [.inr (some 0), .inr (some 0)]) hx hb hml hown hU hE hl.1 hS hR lk_L_72 (i_TabLines (Cl_z.up (by decide))) ⟨by decide, by decide⟩ rfl rfl (by decide) dL_law_4 ⟨Nat.le_of_ble_eq_true rfl, Nat.le_of_ble_eq_true rfl⟩ (fun r w1 H1 locs1 hP hS hR => ?_)
  obtain ⟨rfl, rfl⟩ := hP
  refine lv_astore_n (lv' := [(1, .ref (s.heap.size + 0)), (0, .ref b)]) hx hb dL_law_7 rfl hl (by decide) rfl (fun ls hl => ?_)
  refine lv_iconst (v := Int32.ofInt 0) hx hb dL_law_8 rfl ?_
  refine lv_istore_n (lv' := [(2, vi 0), (1, .ref (s.heap.size + 0)), (0, .ref b)]) hx hb dL_law_9 rfl hl (by decide) rfl (fun ls hl => ?_)
  refine lv_iconst (v := Int32.ofInt 0) hx hb dL_law_10 rfl ?_
  refine lv_istore_n (lv' := [(3, vi 0), (2, vi 0), (1, .ref (s.heap.size + 0)), (0, .ref b)]) hx hb dL_law_11 rfl hl (by decide) rfl (fun ls hl => ?_)
  have hJ : KOkX b L xs s.heap.size (KJ p l e room_1 s m #[Value.ref b] below meth c s.heap.size D dA 19 290 8632 (lw_Z below #[Value.ref b] s)) :=
    ⟨p, l, e, room_1, s, m, _, below, meth, c, D, dA, 290, 8632, _, rfl, hx, hb, hml, hown, hU, hE, fun d' h => ⟨by show d' + 1 ≤ 10; omega, by show 39 + 40 * d' ≤ 386; omega⟩, ⟨Nat.le_of_ble_eq_true rfl, Nat.le_of_ble_eq_true rfl⟩, hXs, hbl, rfl, hL⟩
  have h0 : WA a0 (290, ShF, If0, Rf0) := ⟨ab_0, If0, Rf0, _, _, rfl, ci_0⟩
  refine lb_rounds hJ.ok hJ (fun lv w H locs ls hS hR hl => ?_) 37 0 a0 _ (by decide) (by decide) h0 _ _ ls hS hR (lv_sub hl [3, 2, 1, 0] rfl)
  refine va_forget hS.2.2 ?_
  refine W.widen (k := 600000) (n := 7302250) (Nat.le_of_ble_eq_true rfl) (Nat.le_of_ble_eq_true rfl) ?_
  exact lw_ret hx hb hr hlocks dL_law_566
set_option maxHeartbeats 4000000 in
theorem lw_walk (l : Launch) (hflags : l.flags = flags0) (b : Addr) (xs : List Int32) : MetFree l x (headSpec (Jvm.Cond.code x code maxLocals ret :: tables_1) room_1) (lw_P b xs) (fun _ _ _ _ _ => True) lw_Q := by
  refine MetFree.of_bodyS (code := code) (maxLocals := maxLocals) (ret := ret) (by decide) ?_ ?_
  · intro args s m h hn
    obtain ⟨meth, c, h1, h2, h3, h4, h5, h6, -, -⟩ := Cond.code_spec hn (atoms_spec (ws := Jvm.Cond.code x code maxLocals ret :: tables_1) h _ List.mem_cons_self)
    exact ⟨meth, c, h1, h2, h3, h4, h5, h6⟩
  · intro p e s m args below meth c s₁ B hml0 hP _
    obtain ⟨rfl, hx, hbd, hgv⟩ := hP
    obtain ⟨scr, harrAt, hlist, hof, hsmall⟩ := hx
    obtain ⟨hcb, hkn, -, -⟩ := State.arrayAt?_spec harrAt
    have hown : s.vm.findClass R_law = some m.cls := findClass_of_methodNamed B.named
    have hts0 : ∀ c ∈ (Jvm.Cond.code x code maxLocals ret :: tables_1), c.before #[Value.ref b] s = true := atoms_spec (ws := Jvm.Cond.code x code maxLocals ret :: tables_1) B.pre
    have hts : ∀ w ∈ lw_tbl, w.before #[Value.ref b] s = true := k2_hts_sels lw_privs (fun w hw => hts0 w (List.mem_cons_of_mem _ hw)) lw_privs_ok
    have hml : c.maxLocals = 19 := B.maxLocals_eq (hts0 _ List.mem_cons_self)
    have X₀ : Stand p l e room_1 s m #[Value.ref b] below meth c s₁ [] 0 0 := Stand.of_body B
    have hh0 : s₁.heap = s.heap := by rw [B.state]; rfl
    have hsz : scr.slots.size = xs.length := by rw [← Array.length_toList, hlist, List.length_map]
    have hval : ∀ j : Nat, j < xs.length → scr.slots[j]? = some (.int (xs.getD j 0)) := fun j hj => by
      rw [← Array.getElem?_toList, hlist]
      simp [hj]
    have hbl : b < s.heap.size := (Array.getElem?_eq_some_iff.mp hcb).1
    have hX : va_X b xs.length (fun j => xs.getD j 0) s s.heap := ⟨scr, hcb, hof, hkn, hsz, hval⟩
    have K : W p l e room_1 s m #[Value.ref b] below meth c s₁.heap [] 0 0 (lw_Z below #[Value.ref b] s) (entryFrame m ([Value.ref b] : List Value).toArray 19) := by
      rw [hh0]
      exact whole_start l hflags hbd ⟨B.exec, B.bytes, B.returns, hml, hown, hts, hX, hbl, B.notSynchronized, hgv⟩
    obtain ⟨t, a1, o, b1, b2, b3⟩ := K s₁ rfl X₀
    exact ⟨t, o, a1, b1, b2, b3⟩
theorem lw_pre_spec {args : Array Value} {s : State} (h : (Jvm.Cond.and given_1 narrow_1).before args s = true) (hr : rest_1_c.before args s = true) : ∃ (b : Addr) (xs : List Int32), lw_P b xs args s := by
  have hs := flat_of_before _ h
  have hq := flat_of_before _ hr
  have hc : (Cond.count 1).before args s = true := hs _ (by decide +kernel)
  have harr : (Cond.arrayOf (.arg 0) .int).before args s = true := hs _ (by decide +kernel)
  have hle : (Cond.le (.length (.arg 0)) (.int 260)).before args s = true := hs _ (by decide +kernel)
  have hlen : (Cond.isInt (.length (.arg 0))).before args s = true := hq _ (by decide +kernel)
  have hall : (Cond.all (.arg 0) (.isInt (.elem (.arg 0) (.index 0)))).before args s = true := hq _ (by decide +kernel)
  obtain ⟨b, xs, hb, hx⟩ := State.ints_of_pre rfl harr hlen hall
  have hsm : xs.length < 2 ^ 31 := hx.choose_spec.2.2.2
  have hev : (Term.length (.arg 0)).eval args s none [] s = some (.int xs.length.toInt32) := hx.length_eval hb
  have hv := Cond.le_ints hev (show (Term.int 260).eval args s none [] s = some (.int 260) from rfl)
  have hd : xs.length.toInt32 ≤ 260 := by
    simpa [Cond.before, Cond.holds, hv] using hle
  have hN : xs.length ≤ 260 := (Int32.ofNat_le_ofNat hsm (by decide)).mp (show Int32.ofNat xs.length ≤ Int32.ofNat 260 from hd)
  exact ⟨b, xs, Cond.one_arg hc (show args[0]? = some (.ref b) from hb), hx, hN, h⟩
theorem lw_comes (l : Launch) (hflags : l.flags = flags0) : Comes l x (Jvm.Cond.code x code maxLocals ret :: tables_1) room_1 (fun tb e args s => Calls_1 tb e args s ∧ rest_1 tb e args s ∧ Pre_1 tb e args s)
    (fun _ _ args s o t => lw_Q args s o t) := by
  intro p e ha hc hk s m args below hf hfit hheap happ hpre
  obtain ⟨b, xs, hP⟩ := lw_pre_spec hpre.2.2 hpre.2.1
  obtain ⟨k, o, h1, h2, h3, hQ⟩ := lw_walk l hflags b xs p e ha hc hk s m args below hf ((Spec.applies_iff_loose hf).mp happ).1 hP trivial
  exact ⟨k, o, h1, h2, h3, hQ⟩
theorem lw_frame {s t : State} {o : Outcome} {args : Array Value} (h : Framed s o t [] 600000 7302250) :
    Framed s o t (fieldLocs frame_1_writes args s ++ arrayLocs frame_1_arrays args s ++ staticLocs frame_1_statics s) 600000 7302250 := h
theorem lw_limb (L : Cond) (hL : ∀ (args : Array Value) (s t : State), L.after args s (.returned (some (.int 1))) t = true) :
    ArmFor flags0 classFile x code maxLocals ret World_1 tables_1 room_1 Calls_1 rest_1 Pre_1
      (fun tb e a s o t => postC L tb e a s o t ∧ Framed s o t (fieldLocs frame_1_writes a s ++ arrayLocs frame_1_arrays a s ++ staticLocs frame_1_statics s) 600000 7302250) := by
  intro l hflags _ _ p e ha hc hk s m args below hf hfit hheap happ hpre
  obtain ⟨k, o, h1, h2, h3, rfl, hF⟩ := lw_comes l hflags p e ha hc hk s m args below hf hfit hheap happ hpre
  exact ⟨k, _, h1, h2, h3, hL args s _, lw_frame hF⟩
theorem i_vc : Claimed_1_1 ∧ Claimed_1_2 := ⟨lw_limb limb_1_1 (fun args s t => by simp [limb_1_1, Cond.after, Cond.holds, Cond.value]), lw_limb limb_1_2 (fun args s t => Cond.after_iff.mpr (by
  first | (rw [show limb_1_2 = Cond.eq .result (.int 1) from rfl, Cond.eq_ints (x := 1) (y := 1) rfl rfl]; simp; done) | (simp [limb_1_2, Cond.value, Term.eval]; done)))⟩
