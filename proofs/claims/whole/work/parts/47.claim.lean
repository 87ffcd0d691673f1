/-! the law from its entry, and the claim -/
theorem Rp_0 {D : va_G} {dA : Nat → ClassId} {H : Heap} : Rp D dA H.size (0, ShF, Iz, Rz) H := ⟨fun k q hq => by simp [wL] at hq, rfl⟩
set_option maxHeartbeats 4000000 in
set_option maxRecDepth 100000 in
theorem whole_start {p : Program} {e : Env} {s : State} {m : MethodId} {below : List Frame} {meth : Method} {c : Code} (l : Launch) (hflags : l.flags = flags0) {b L : Nat} {xs : Nat → Int32} (hL : L ≤ 2560) (C0 : lw_At p s m meth c b L xs) : W p l e room_1 s m #[Value.ref b] below meth c s.heap [] 0 0 (lw_Z below #[Value.ref b] s) (entryFrame m ([Value.ref b] : List Value).toArray 4) := by
  obtain ⟨hx, hb, hr, hml, hown, hts, hXs, hbl, hlocks, hgv⟩ := id C0
  obtain ⟨D, dA, hE⟩ := env_start hts
  have hX : LX p s m meth c b L xs D dA := ⟨C0, hE, hL⟩
  have hU : ∀ q ∈ lw_U, q.before #[Value.ref b] s = true := fun q hq => hts q (lt_U hq)
  have hS : va_S (fun q : Nat => s.heap.size ≤ q) s.heap s.heap [] := va_S.rf
  have hR : Rp D dA s.heap.size (0, ShF, Iz, Rz) s.heap := Rp_0
  have hl := lv_entry ([.ref b]) (n := 4) (Nat.le_of_ble_eq_true rfl)
  rw [lg_entry_eq]
  generalize (lg_sl ([.ref b]) ++ List.replicate (4 - (lg_sl ([.ref b])).length) Slot.unset).toArray = ls at hl ⊢
  have hl : lv_has ls 4 [(0, .ref b)] := hl
  have nwq : ∀ {idx ci F N : Nat} {C : String} {I : Mem} {R : RMem} {H : Heap} {locs : List Loc} {pc cells slots : Nat} {ls : Array Slot} {st : List MV}, NwOk "TabLinesLaw" idx ci C F → decode code pc = .ok (.new idx, 3) → cells + 1 ≤ 600000 ∧ slots + F ≤ 7302250 → ShF N = (ci, 0) → Cl N I R → va_S (fun q : Nat => s.heap.size ≤ q) s.heap H locs → Rp D dA s.heap.size (N, ShF, I, R) H →
      (∀ H1 : Heap, va_S (fun q : Nat => s.heap.size ≤ q) s.heap H1 locs → Rp D dA s.heap.size (N + 1, ShF, I, R) H1 → W p l e room_1 s m #[Value.ref b] below meth c H1 locs (cells + 1) (slots + F) (lw_Z below #[Value.ref b] s) (F0 m (pc + 3) ls ((.inr (some N) :: st).map (tv s.heap.size)))) → W p l e room_1 s m #[Value.ref b] below meth c H locs cells slots (lw_Z below #[Value.ref b] s) (F0 m pc ls (st.map (tv s.heap.size))) := by
    intro idx ci F N C I R H locs pc cells slots ls st hN hdg hf hsh hc hS hR k
    obtain ⟨⟨T, hc100, hcl, hin, hty, hnm, hNF⟩, hl1, hl2, hl3, hdef⟩ := hN
    have hKn := hE.1.1 ci _ hcl
    refine W.newcK hx hb hown (hU _ hl1) (hU _ hl2) (hU _ hl3) rfl hdg hf.1 hf.2 hKn.2.1 rfl fun H1 kC hkC e1 z1 o1 => ?_
    have e9 : wE s.heap.size dA (newW (N, ShF, I, R) ci 0) N = .inr (ci, wF s.heap.size (newW (N, ShF, I, R) ci 0) N ci) := by
      unfold wE
      rw [show (newW (N, ShF, I, R) ci 0).2.1 N = (ci, 0) from if_pos rfl, if_pos hc100]
    have hR1 : Rp D dA s.heap.size (newW (N, ShF, I, R) ci 0) H1 := by
      refine Rp_new hR z1 o1 ?_
      show va_at D cls9 (s.heap.size + N, wE s.heap.size dA (newW (N, ShF, I, R) ci 0) N) H1
      rw [e9, show s.heap.size + N = H.size from hR.2.symm]
      exact ⟨_, hcl, (u_born (tyC ci) hU hin hKn hkC e1 hty).to (wF_def (fun j => if_pos rfl) (fun j => if_pos rfl) (tyC ci) F hNF (fun j _ => rfl) hdef)⟩
    rw [newW_eq hsh hc] at hR1
    rw [show H.size = s.heap.size + N from hR.2]
    exact k H1 (hS.new z1 o1) hR1
  refine nwq (st := []) nw_L_7 dL_law_0 ⟨Nat.le_of_ble_eq_true rfl, Nat.le_of_ble_eq_true rfl⟩ rfl Cl_z hS hR (fun H hS hR => ?_)
  refine lv_dup hx hb dL_law_3 rfl ?_
  refine raw_callI (R := room_1) (cc := code) (nL := 4) (own := "TabLinesLaw") (As := []) (st := [.inr (some 0)]) (st0 := [.inr (some 0), .inr (some 0)]) hx hb hml hown hU hE hl.1 hS hR lk_L_9 (i_TabLines (Cl_z.up (by decide))) ⟨by decide, by decide⟩ rfl rfl (by decide) dL_law_4 ⟨Nat.le_of_ble_eq_true rfl, Nat.le_of_ble_eq_true rfl⟩ (fun r w1 H1 locs1 hP hS hR => ?_)
  obtain ⟨rfl, rfl⟩ := hP
  refine lv_astore_n (lv' := [(1, .ref s.heap.size), (0, .ref b)]) hx hb dL_law_7 rfl hl (by decide) rfl (fun ls hl => ?_)
  have hc9 : Cl 290 (svI (t4I Iz) 6) (svR (t5R Rz) 6) := by
    have h1 : Cl 28 (stI Iz 1) (stR Rz 1) := Cl.st (Cl_z.up (by decide))
    have h3 : Cl 29 (stI Iz 1) (t2R Rz) := ((h1.setR (by decide)).up (by decide)).setR (by decide)
    have h4 : Cl 30 (stI Iz 1) (t3R Rz) := (h3.up (by decide)).setR (by decide)
    have h6 : Cl 34 (t4I Iz) (t4R Rz) := ((h4.up (by decide)).rd).setR (by decide)
    have h8 : Cl 128 (t4I Iz) (t5R Rz) := ((h6.up (by decide)).la).setR (by decide)
    exact h8.sv 6
  refine nwq (st := []) nw_L_10 dL_law_8 ⟨Nat.le_of_ble_eq_true rfl, Nat.le_of_ble_eq_true rfl⟩ rfl hc9 hS hR (fun H hS hR => ?_)
  refine lv_dup hx hb dL_law_11 rfl ?_
  refine raw_callI (R := room_1) (cc := code) (nL := 4) (own := "TabLinesLaw") (As := []) (st := [.inr (some 290)]) (st0 := [.inr (some 290), .inr (some 290)]) hx hb hml hown hU hE hl.1 hS hR lk_L_12 (i_Model (hc9.up (by decide))) ⟨by decide, by decide⟩ rfl rfl (by decide) dL_law_12 ⟨Nat.le_of_ble_eq_true rfl, Nat.le_of_ble_eq_true rfl⟩ (fun r w1 H1 locs1 hP hS hR => ?_)
  obtain ⟨rfl, rfl⟩ := hP
  refine lv_astore_n (lv' := [(2, .ref (s.heap.size + 290)), (1, .ref s.heap.size), (0, .ref b)]) hx hb dL_law_15 rfl hl (by decide) rfl (fun ls hl => ?_)
  refine lv_iconst (v := Int32.ofInt ((0 : Nat) : Int)) hx hb dL_law_16 rfl ?_
  refine lv_istore_n (lv' := [(3, .int (Int32.ofInt ((0 : Nat) : Int))), (2, .ref (s.heap.size + 290)), (1, .ref s.heap.size), (0, .ref b)]) hx hb dL_law_17 rfl hl (by decide) rfl (fun ls hl => ?_)
  exact law_loop hX (L + 1) 0 If0 Rf0 _ _ a0 (by omega) (Nat.zero_le _) ci_0 mi_0 _ _ ls hS hR (lv_sub hl [3, 2, 1, 0] rfl)
set_option maxHeartbeats 4000000 in
theorem lw_walk (l : Launch) (hflags : l.flags = flags0) (b : Addr) (xs : List Int32) : MetFree l x (headSpec (Jvm.Cond.code x code maxLocals ret :: tables_1) room_1) (lw_P b xs) (fun _ _ _ _ _ => True) lw_Q := by
  refine MetFree.of_bodyS (code := code) (maxLocals := maxLocals) (ret := ret) (by decide) ?_ ?_
  · intro args s m h hn
    obtain ⟨meth, c, h1, h2, h3, h4, h5, h6, -, -⟩ := Cond.code_spec hn (atoms_spec (ws := Jvm.Cond.code x code maxLocals ret :: tables_1) h _ List.mem_cons_self)
    exact ⟨meth, c, h1, h2, h3, h4, h5, h6⟩
  · intro p e s m args below meth c s₁ B hml0 hP _
    obtain ⟨rfl, hx, hbd, hgv⟩ := hP
    obtain ⟨scr, harrAt, hlist, hof, hsmall⟩ := hx
    obtain ⟨hcb, hkn, -, -⟩ := State.arrayAt?_spec harrAt
    have hown : s.vm.findClass R_law = some m.cls := findClass_of_methodNamed B.named
    have hts0 : ∀ c ∈ (Jvm.Cond.code x code maxLocals ret :: tables_1), c.before #[Value.ref b] s = true := atoms_spec (ws := Jvm.Cond.code x code maxLocals ret :: tables_1) B.pre
    have hts : ∀ w ∈ lw_tbl, w.before #[Value.ref b] s = true := k2_hts_sels lw_privs (fun w hw => hts0 w (List.mem_cons_of_mem _ hw)) lw_privs_ok
    have hml : c.maxLocals = 4 := B.maxLocals_eq (hts0 _ List.mem_cons_self)
    have X₀ : Stand p l e room_1 s m #[Value.ref b] below meth c s₁ [] 0 0 := Stand.of_body B
    have hh0 : s₁.heap = s.heap := by rw [B.state]; rfl
    have hsz : scr.slots.size = xs.length := by rw [← Array.length_toList, hlist, List.length_map]
    have hval : ∀ j : Nat, j < xs.length → scr.slots[j]? = some (.int (xs.getD j 0)) := fun j hj => by
      rw [← Array.getElem?_toList, hlist]
      simp [hj]
    have hbl : b < s.heap.size := (Array.getElem?_eq_some_iff.mp hcb).1
    have hX : va_X b xs.length (fun j => xs.getD j 0) s s.heap := ⟨scr, hcb, hof, hkn, hsz, hval⟩
    have K : W p l e room_1 s m #[Value.ref b] below meth c s₁.heap [] 0 0 (lw_Z below #[Value.ref b] s) (entryFrame m ([Value.ref b] : List Value).toArray 4) := by
      rw [hh0]
      exact whole_start l hflags hbd ⟨B.exec, B.bytes, B.returns, hml, hown, hts, hX, hbl, B.notSynchronized, hgv⟩
    obtain ⟨t, a1, o, b1, b2, b3⟩ := K s₁ rfl X₀
    exact ⟨t, o, a1, b1, b2, b3⟩
theorem lw_pre_spec {args : Array Value} {s : State} (h : (Jvm.Cond.and given_1 narrow_1).before args s = true) (hr : rest_1_c.before args s = true) : ∃ (b : Addr) (xs : List Int32), lw_P b xs args s := by
  have hs := flat_of_before _ h
  have hq := flat_of_before _ hr
  have hc : (Cond.count 1).before args s = true := hs _ (by decide +kernel)
  have harr : (Cond.arrayOf (.arg 0) .int).before args s = true := hs _ (by decide +kernel)
  have hle : (Cond.le (.length (.arg 0)) (.int 2560)).before args s = true := hs _ (by decide +kernel)
  have hlen : (Cond.isInt (.length (.arg 0))).before args s = true := hq _ (by decide +kernel)
  have hall : (Cond.all (.arg 0) (.isInt (.elem (.arg 0) (.index 0)))).before args s = true := hq _ (by decide +kernel)
  obtain ⟨b, xs, hb, hx⟩ := State.ints_of_pre rfl harr hlen hall
  have hsm : xs.length < 2 ^ 31 := hx.choose_spec.2.2.2
  have hev : (Term.length (.arg 0)).eval args s none [] s = some (.int xs.length.toInt32) := hx.length_eval hb
  have hv := Cond.le_ints hev (show (Term.int 2560).eval args s none [] s = some (.int 2560) from rfl)
  have hd : xs.length.toInt32 ≤ 2560 := by
    simpa [Cond.before, Cond.holds, hv] using hle
  have hN : xs.length ≤ 2560 := (Int32.ofNat_le_ofNat hsm (by decide)).mp (show Int32.ofNat xs.length ≤ Int32.ofNat 2560 from hd)
  exact ⟨b, xs, Cond.one_arg hc (show args[0]? = some (.ref b) from hb), hx, hN, h⟩
theorem lw_comes (l : Launch) (hflags : l.flags = flags0) : Comes l x (Jvm.Cond.code x code maxLocals ret :: tables_1) room_1 (fun tb e args s => Calls_1 tb e args s ∧ rest_1 tb e args s ∧ Pre_1 tb e args s)
    (fun _ _ args s o t => lw_Q args s o t) := by
  intro p e ha hc hk s m args below hf hfit hheap happ hpre
  obtain ⟨b, xs, hP⟩ := lw_pre_spec hpre.2.2 hpre.2.1
  obtain ⟨k, o, h1, h2, h3, hQ⟩ := lw_walk l hflags b xs p e ha hc hk s m args below hf ((Spec.applies_iff_loose hf).mp happ).1 hP trivial
  exact ⟨k, o, h1, h2, h3, hQ⟩
theorem lw_frame {s t : State} {o : Outcome} {args : Array Value} (h : Framed s o t [] 600000 7302250) :
    Framed s o t (fieldLocs frame_1_writes args s ++ arrayLocs frame_1_arrays args s ++ staticLocs frame_1_statics s) 600000 7302250 := h
theorem lw_limb (L : Cond) (hL : ∀ (args : Array Value) (s t : State), L.after args s (.returned (some (.int 1))) t = true) :
    ArmFor flags0 classFile x code maxLocals ret World_1 tables_1 room_1 Calls_1 rest_1 Pre_1
      (fun tb e a s o t => postC L tb e a s o t ∧ Framed s o t (fieldLocs frame_1_writes a s ++ arrayLocs frame_1_arrays a s ++ staticLocs frame_1_statics s) 600000 7302250) := by
  intro l hflags _ _ p e ha hc hk s m args below hf hfit hheap happ hpre
  obtain ⟨k, o, h1, h2, h3, rfl, hF⟩ := lw_comes l hflags p e ha hc hk s m args below hf hfit hheap happ hpre
  exact ⟨k, _, h1, h2, h3, hL args s _, lw_frame hF⟩
theorem i_vc : Claimed_1_1 ∧ Claimed_1_2 := ⟨lw_limb limb_1_1 (fun args s t => by simp [limb_1_1, Cond.after, Cond.holds, Cond.value]), lw_limb limb_1_2 (fun args s t => Cond.after_iff.mpr (by
  first | (rw [show limb_1_2 = Cond.eq .result (.int 1) from rfl, Cond.eq_ints (x := 1) (y := 1) rfl rfl]; simp; done) | (simp [limb_1_2, Cond.value, Term.eval]; done)))⟩
