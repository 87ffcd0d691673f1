/-! calls, new cells, and a method's contract out of its walk -/
def LkB (y : MethodName) (cy : ByteArray) (nLy : Nat) (rty : Option FieldType) (n : Nat) : Prop :=
  Cond.initialized y.cls ∈ lw_U ∧ Cond.code y cy nLy rty ∈ lw_U ∧ (y.cls ≠ "java/lang/invoke/MethodHandle" ∧ y.cls ≠ "java/lang/invoke/VarHandle" ∧ (parseMethodDescriptor y.desc).map (fun d => d.parameters.length) = some n) ∧ nLy ≤ 20
def LkV (own : String) (idx : Nat) (ci : Nat) (y : MethodName) (cy : ByteArray) (nLy : Nat) (rty : Option FieldType) (n : Nat) : Prop :=
  LkB y cy nLy rty n ∧ Cond.methodLink own idx y ∈ lw_U ∧ Cond.instanceMethod y ∈ lw_U ∧ Cond.selects y.cls y y ∈ lw_U ∧ (∃ T N, cls9[ci]? = some (y.cls, T, N)) ∧ ci < 100
def LkS (own : String) (idx : Nat) (y : MethodName) (cy : ByteArray) (nLy : Nat) (rty : Option FieldType) (n : Nat) : Prop :=
  LkB y cy nLy rty n ∧ (Cond.methodLink own idx y ∈ lw_U ∨ ∃ h, (own, idx, y, h) ∈ nestT) ∧ Cond.static y ∈ lw_U
def LkI (own : String) (idx : Nat) (y : MethodName) (cy : ByteArray) (nLy : Nat) (n : Nat) : Prop :=
  LkB y cy nLy none n ∧ (Cond.methodLink own idx y ∈ lw_U ∨ ∃ h, (own, idx, y, h) ∈ nestT) ∧ Cond.instanceMethod y ∈ lw_U ∧ y.name = "<init>"
theorem lkGood {y : MethodName} {cy : ByteArray} {nLy : Nat} {rty : Option FieldType} {ws : List Cond} (h : ∀ q ∈ ws, q ∈ lw_U) (hc : Cond.code y cy nLy rty ∈ lw_U) : GoodIn lw_U (ws ++ Cond.code y cy nLy rty :: lw_U) := by
  intro q hq
  have hm : q ∈ lw_U := by
    rcases List.mem_append.mp hq with h1 | h1
    · exact h q h1
    · rcases List.mem_cons.mp h1 with rfl | h2
      · exact hc
      · exact h2
  exact ⟨hm, lw_U_good q hm⟩
theorem tv_sum (b : Nat) (st : List MV) : ((st.map (tv b)).map fun v => v.category).sum = st.length := by
  induction st with
  | nil => rfl
  | cons a l ih =>
    simp only [List.map_cons, List.sum_cons, List.length_cons, ih, tv_cat]
    omega
section CW
variable {cc : ByteArray} {own : String} {nL : Nat} {rt : Option FieldType} {ini : Bool} {d mc ms : Nat} {Post : Option MV → Wd → Prop} {uc us pc : Nat} {ls : List (Option MV)} {st : List MV} {w : Wd}
variable {D : va_G} {dA : Nat → ClassId} {b : Nat} {p : Program} {l : Launch} {e_ : Env} {R : Room} {s : State} {m : MethodId} {args : Array Value} {below : List Frame} {meth : Method} {c : Code} {H : Heap} {locs : List Loc} {cells slots : Nat} {Q : State → Prop} {A : Array Slot}
/-- a call's run, for whoever calls: the world that it leaves -/
theorem run_go {mc' ms' : Nat} {Post' : Option MV → Wd → Prop} {a : Array Value} {st0 : List Value} (hS : va_S (fun q => b ≤ q) s.heap H locs) (hr : va_Run p l e_ R s m args below meth c H locs cells slots mc' ms' (F0 m pc A st0) (st.map (tv b)) (QP D dA b Post' a) (fun q => b ≤ q))
    (k : ∀ (r : Option MV) (w' : Wd) (H1 : Heap) (locs1 : List Loc), Post' r w' → va_S (fun q => b ≤ q) s.heap H1 locs1 → Rp D dA b w' H1 → W p l e_ R s m args below meth c H1 locs1 (cells + mc') (slots + ms') Q (F0 m (pc + 3) A ((r.toList ++ st).map (tv b)))) : W p l e_ R s m args below meth c H locs cells slots Q (F0 m pc A st0) := by
  intro T hT X
  obtain ⟨v, st₀, t, T', L, h0, X', hLf, e1, e2, ⟨⟨r, w', hv, hPost, hR'⟩, hz, hk⟩, stp⟩ := hr T hT X
  cases hv
  rw [h0] at hz hk
  have K := k r w' T'.heap (locs ++ L) hPost ⟨Nat.le_trans hS.1 (by rw [e1]; exact hz), fun q h1 h2 => by rw [e1, hk q (Nat.lt_of_lt_of_le h1 hS.1) h2]; exact hS.2.1 q h1 h2, fun q hq => by
      rcases List.mem_append.mp hq with h | h
      · exact hS.2.2 q h
      · exact hLf q h⟩ (by rw [e1]; exact hR')
  obtain ⟨t2, a1, b1⟩ := K T' rfl X'
  refine ⟨t2, stp t2 ?_, b1⟩
  cases r <;> exact a1
theorem CC_blind {as : List MV} : FrameBlind (va_Pc (as.map (tv b)) (fun U => Rp D dA b w U.heap ∧ EnvK D dA U)) := by
  intro a U g mk ⟨h1, h2, h3⟩
  exact ⟨h1, h2, va_K.moved (u := U) (U := U.calling g mk a) (Vm.Alike.refl U.vm) h3.1, fun q hq => va_Nw.same rfl (rfl : U.vm = (U.calling g mk a).vm) (h3.2.1 q hq), va_AO.moved (u := U) (U := U.calling g mk a) (Vm.Alike.refl U.vm) h3.2.2.1, va_AO.moved (u := U) (U := U.calling g mk a) (Vm.Alike.refl U.vm) h3.2.2.2.1, va_AO.moved (u := U) (U := U.calling g mk a) (Vm.Alike.refl U.vm) h3.2.2.2.2.1, gr_AI.moved (s := U) (U := U.calling g mk a) (Vm.Alike.refl U.vm) h3.2.2.2.2.2⟩
/-- the raw calls, which the law's body uses too -/
theorem raw_callV {idx n d' mc' ms' ci a nn : Nat} {y : MethodName} {cy : ByteArray} {nLy : Nat} {rty : Option FieldType} {As st0 : List MV} {Post' : Option MV → Wd → Prop} (hx : p.tables.exec = Jvm.exec) (hb : c.code = cc) (hml : c.maxLocals = nL) (hown : s.vm.findClass own = some m.cls) (hts : ∀ q ∈ lw_U, q.before args s = true) (hE : EnvK D dA s) (hAs : A.size = nL)
    (hS : va_S (fun q => b ≤ q) s.heap H locs) (hR : Rp D dA b w H) (hL : LkV own idx ci y cy nLy rty n) (hM : CC d' mc' ms' y cy nLy rty (.inr (some a) :: As) w Post') (hd : d' + 1 ≤ R.frames ∧ 39 + 40 * d' ≤ R.locals) (ha : a < w.1) (hs : w.2.1 a = (ci, nn)) (hn : As.length = n) (hst : st0 = As.reverse ++ .inr (some a) :: st) (h8 : st.length ≤ 8) (hdg : decode cc pc = .ok (.invokevirtual idx, 3)) (hf : cells + mc' ≤ R.cells ∧ slots + ms' ≤ R.slots)
    (k : ∀ (r : Option MV) (w' : Wd) (H1 : Heap) (locs1 : List Loc), Post' r w' → va_S (fun q => b ≤ q) s.heap H1 locs1 → Rp D dA b w' H1 → W p l e_ R s m args below meth c H1 locs1 (cells + mc') (slots + ms') Q (F0 m (pc + 3) A ((r.toList ++ st).map (tv b)))) : W p l e_ R s m args below meth c H locs cells slots Q (F0 m pc A (st0.map (tv b))) := by
  obtain ⟨⟨hini, hcode, hd3, hn20⟩, hlk, hins, hsel, ⟨T, N, hcl⟩, hc100⟩ := hL
  have S : CallFix p m c cc nL s args lw_U own := ⟨hx, hb, hml, hown, hts⟩
  have cw := cwV (R := R) (s := s) (args := args) (own := own) (index := idx) (C := y.cls) (y := y) (bytes := cy) (maxL := nLy) (ret := rty) (rm := rmD d' mc' ms') (Ts := lw_U) (ws := Cond.code y cy nLy rty :: lw_U) (ws' := lw_U) n hts (lkGood (ws := [.methodLink own idx y, .instanceMethod y, .selects y.cls y y, .initialized y.cls]) (by
      intro q hq
      simp only [List.mem_cons, List.not_mem_nil, or_false] at hq
      rcases hq with rfl | rfl | rfl | rfl
      · exact hlk
      · exact hins
      · exact hsel
      · exact hini) hcode) rfl rfl rfl ⟨rfl, hd3⟩ ⟨hd.1, by show 8 + (nLy + 11) + 40 * d' ≤ _; omega⟩
  have hp : PreV s H y.cls (b + a) (va_Pc ((.inr (some a) :: As : List MV).map (tv b)) (fun U => Rp D dA b w U.heap ∧ EnvK D dA U)) (As.map (tv b)) :=
    ⟨CC_blind, va_recv hE.1 hR.1 hcl (wL_obj ha hs hc100), fun U hU hW => ⟨rfl, by rw [hU]; exact hR, EnvK.moved hW hE⟩⟩
  refine run_go hS (va_runV S (hM l D dA b) cw hp rfl (by rw [List.length_map]; exact hn) hAs ?_ (lv_room (by rw [tv_sum]; exact h8)) hdg hf) k
  show st0.map (tv b) = _
  rw [hst, List.map_append, List.map_cons, List.map_reverse]
  rfl
theorem raw_callS {idx n d' mc' ms' : Nat} {y : MethodName} {cy : ByteArray} {nLy : Nat} {rty : Option FieldType} {As st0 : List MV} {Post' : Option MV → Wd → Prop} (hx : p.tables.exec = Jvm.exec) (hb : c.code = cc) (hml : c.maxLocals = nL) (hown : s.vm.findClass own = some m.cls) (hts : ∀ q ∈ lw_U, q.before args s = true) (hE : EnvK D dA s) (hAs : A.size = nL)
    (hS : va_S (fun q => b ≤ q) s.heap H locs) (hR : Rp D dA b w H) (hL : LkS own idx y cy nLy rty n) (hM : CC d' mc' ms' y cy nLy rty As w Post') (hd : d' + 1 ≤ R.frames ∧ 39 + 40 * d' ≤ R.locals) (hn : As.length = n) (hst : st0 = As.reverse ++ st) (h8 : st.length ≤ 8) (hdg : decode cc pc = .ok (.invokestatic idx, 3)) (hf : cells + mc' ≤ R.cells ∧ slots + ms' ≤ R.slots)
    (k : ∀ (r : Option MV) (w' : Wd) (H1 : Heap) (locs1 : List Loc), Post' r w' → va_S (fun q => b ≤ q) s.heap H1 locs1 → Rp D dA b w' H1 → W p l e_ R s m args below meth c H1 locs1 (cells + mc') (slots + ms') Q (F0 m (pc + 3) A ((r.toList ++ st).map (tv b)))) : W p l e_ R s m args below meth c H locs cells slots Q (F0 m pc A (st0.map (tv b))) := by
  obtain ⟨⟨hini, hcode, hd3, hn20⟩, hlk, hstt⟩ := hL
  have S : CallFix p m c cc nL s args lw_U own := ⟨hx, hb, hml, hown, hts⟩
  have hR2 : (rmD d' mc' ms').frames + 1 ≤ R.frames ∧ 8 + (nLy + 11) + (rmD d' mc' ms').locals ≤ R.locals := ⟨hd.1, by show 8 + (nLy + 11) + 40 * d' ≤ _; omega⟩
  have hp : PreS s H (va_Pc (As.map (tv b)) (fun U => Rp D dA b w U.heap ∧ EnvK D dA U)) (As.map (tv b)) :=
    ⟨CC_blind, fun U hU hW => ⟨rfl, by rw [hU]; exact hR, EnvK.moved hW hE⟩⟩
  have hstk : st0.map (tv b) = (As.map (tv b)).reverse ++ st.map (tv b) := by rw [hst, List.map_append, List.map_reverse]
  rcases hlk with hlk | ⟨host, hlk⟩
  · have cw := va_cwS (R := R) (s := s) (args := args) (own := own) (index := idx) (y := y) (bytes := cy) (maxL := nLy) (ret := rty) (rm := rmD d' mc' ms') (Ts := lw_U) (ws := Cond.code y cy nLy rty :: lw_U) (ws' := lw_U) n hts (lkGood (ws := [.methodLink own idx y, .static y, .initialized y.cls]) (by
      intro q hq
      simp only [List.mem_cons, List.not_mem_nil, or_false] at hq
      rcases hq with rfl | rfl | rfl
      · exact hlk
      · exact hstt
      · exact hini) hcode) rfl rfl rfl hd3 hR2
    exact run_go hS (va_runS S (hM l D dA b) cw hp rfl (by rw [List.length_map]; exact hn) hAs hstk (lv_room (by rw [tv_sum]; exact h8)) hdg hf) k
  · have cw := va_cnB (R := R) (s := s) (args := args) (own := own) (host := host) (index := idx) (y := y) (bytes := cy) (maxL := nLy) (ret := rty) (rm := rmD d' mc' ms') (Ts := lw_U) (ws := Cond.code y cy nLy rty :: lw_U) (ws' := lw_U) n hts (lkGood (ws := []) (fun q hq => absurd hq List.not_mem_nil) hcode) rfl rfl rfl (hE.2.1 _ hlk) (hts _ hini) hd3 hR2
    exact run_go hS (va_runSN S (hM l D dA b) ⟨cw, hts _ hstt, trivial⟩ hp rfl (by rw [List.length_map]; exact hn) hAs hstk (lv_room (by rw [tv_sum]; exact h8)) hdg hf) k
theorem raw_callI {idx n d' mc' ms' a : Nat} {y : MethodName} {cy : ByteArray} {nLy : Nat} {As st0 : List MV} {Post' : Option MV → Wd → Prop} (hx : p.tables.exec = Jvm.exec) (hb : c.code = cc) (hml : c.maxLocals = nL) (hown : s.vm.findClass own = some m.cls) (hts : ∀ q ∈ lw_U, q.before args s = true) (hE : EnvK D dA s) (hAs : A.size = nL)
    (hS : va_S (fun q => b ≤ q) s.heap H locs) (hR : Rp D dA b w H) (hL : LkI own idx y cy nLy n) (hM : CC d' mc' ms' y cy nLy none (.inr (some a) :: As) w Post') (hd : d' + 1 ≤ R.frames ∧ 39 + 40 * d' ≤ R.locals) (hn : As.length = n) (hst : st0 = As.reverse ++ .inr (some a) :: st) (h8 : st.length ≤ 8) (hdg : decode cc pc = .ok (.invokespecial idx, 3)) (hf : cells + mc' ≤ R.cells ∧ slots + ms' ≤ R.slots)
    (k : ∀ (r : Option MV) (w' : Wd) (H1 : Heap) (locs1 : List Loc), Post' r w' → va_S (fun q => b ≤ q) s.heap H1 locs1 → Rp D dA b w' H1 → W p l e_ R s m args below meth c H1 locs1 (cells + mc') (slots + ms') Q (F0 m (pc + 3) A ((r.toList ++ st).map (tv b)))) : W p l e_ R s m args below meth c H locs cells slots Q (F0 m pc A (st0.map (tv b))) := by
  obtain ⟨⟨hini, hcode, hd3, hn20⟩, hlk, hins, hnm⟩ := hL
  have S : CallFix p m c cc nL s args lw_U own := ⟨hx, hb, hml, hown, hts⟩
  have hR2 : (rmD d' mc' ms').frames + 1 ≤ R.frames ∧ 8 + (nLy + 11) + (rmD d' mc' ms').locals ≤ R.locals := ⟨hd.1, by show 8 + (nLy + 11) + 40 * d' ≤ _; omega⟩
  have hp : PreS s H (va_Pc ((.inr (some a) :: As : List MV).map (tv b)) (fun U => Rp D dA b w U.heap ∧ EnvK D dA U)) (.ref (b + a) :: As.map (tv b)) :=
    ⟨CC_blind, fun U hU hW => ⟨rfl, by rw [hU]; exact hR, EnvK.moved hW hE⟩⟩
  have hstk : st0.map (tv b) = (As.map (tv b)).reverse ++ .ref (b + a) :: st.map (tv b) := by
    rw [hst, List.map_append, List.map_cons, List.map_reverse]
    rfl
  have hG : GoodIn lw_U (Cond.code y cy nLy none :: lw_U) := lkGood (ws := []) (fun q hq => absurd hq List.not_mem_nil) hcode
  rcases hlk with hlk | ⟨host, hlk⟩
  · have cw := cwI (R := R) (s := s) (args := args) (own := own) (index := idx) (y := y) (bytes := cy) (maxL := nLy) (rm := rmD d' mc' ms') (Ts := lw_U) (ws := Cond.code y cy nLy none :: lw_U) (ws' := lw_U) n hts hG rfl rfl rfl (hts _ hini) (hts _ hlk) (hts _ hins) hnm hd3 hR2
    exact run_go hS (va_runI S (hM l D dA b) cw hp rfl (by rw [List.length_map]; exact hn) hAs hstk (lv_room (by rw [tv_sum]; exact h8)) hdg hf) k
  · have cw := va_cnB (R := R) (s := s) (args := args) (own := own) (host := host) (index := idx) (y := y) (bytes := cy) (maxL := nLy) (ret := none) (rm := rmD d' mc' ms') (Ts := lw_U) (ws := Cond.code y cy nLy none :: lw_U) (ws' := lw_U) n hts hG rfl rfl rfl (hE.2.1 _ hlk) (hts _ hini) hd3 hR2
    exact run_go hS (va_runIN S (hM l D dA b) ⟨cw, hnm, hts _ hins⟩ hp rfl (by rw [List.length_map]; exact hn) hAs hstk (lv_room (by rw [tv_sum]; exact h8)) hdg hf) k
/-! the calls of WW -/
theorem r_callV {idx n d' mc' ms' ci a nn : Nat} {y : MethodName} {cy : ByteArray} {nLy : Nat} {rty : Option FieldType} {As st0 : List MV} {Post' : Option MV → Wd → Prop} (hL : LkV own idx ci y cy nLy rty n) (hdg : decode cc pc = .ok (.invokevirtual idx, 3)) (hM : CC d' mc' ms' y cy nLy rty (.inr (some a) :: As) w Post') (hd : d' + 1 ≤ d) (ha : a < w.1) (hs : w.2.1 a = (ci, nn)) (hn : As.length = n) (hst : st0 = As.reverse ++ .inr (some a) :: st) (h8 : st.length ≤ 8) (hf : uc + mc' ≤ mc ∧ us + ms' ≤ ms)
    (k : ∀ (r : Option MV) (w' : Wd), Post' r w' → WW cc own nL rt ini d mc ms Post (uc + mc') (us + ms') (pc + 3) ls (r.toList ++ st) w') : WW cc own nL rt ini d mc ms Post uc us pc ls st0 w := by
  intro l D dA b p e_ s m args below meth c H locs A hC hb0 hS hR hLs
  have hC' := hC
  obtain ⟨hx, hb, hml, hrt, hlk, hin2, hown, hts, hE⟩ := hC'
  exact raw_callV hx hb hml hown hts hE hLs.1 hS hR hL hM ⟨hd, by show _ ≤ 40 * d; omega⟩ ha hs hn hst h8 hdg hf (fun r w' H1 locs1 hP hS1 hR1 => k r w' hP l D dA b p e_ s m args below meth c H1 locs1 A hC hb0 hS1 hR1 hLs)
theorem r_callS {idx n d' mc' ms' : Nat} {y : MethodName} {cy : ByteArray} {nLy : Nat} {rty : Option FieldType} {As st0 : List MV} {Post' : Option MV → Wd → Prop} (hL : LkS own idx y cy nLy rty n) (hdg : decode cc pc = .ok (.invokestatic idx, 3)) (hM : CC d' mc' ms' y cy nLy rty As w Post') (hd : d' + 1 ≤ d) (hn : As.length = n) (hst : st0 = As.reverse ++ st) (h8 : st.length ≤ 8) (hf : uc + mc' ≤ mc ∧ us + ms' ≤ ms)
    (k : ∀ (r : Option MV) (w' : Wd), Post' r w' → WW cc own nL rt ini d mc ms Post (uc + mc') (us + ms') (pc + 3) ls (r.toList ++ st) w') : WW cc own nL rt ini d mc ms Post uc us pc ls st0 w := by
  intro l D dA b p e_ s m args below meth c H locs A hC hb0 hS hR hLs
  have hC' := hC
  obtain ⟨hx, hb, hml, hrt, hlk, hin2, hown, hts, hE⟩ := hC'
  exact raw_callS hx hb hml hown hts hE hLs.1 hS hR hL hM ⟨hd, by show _ ≤ 40 * d; omega⟩ hn hst h8 hdg hf (fun r w' H1 locs1 hP hS1 hR1 => k r w' hP l D dA b p e_ s m args below meth c H1 locs1 A hC hb0 hS1 hR1 hLs)
theorem r_callI {idx n d' mc' ms' a : Nat} {y : MethodName} {cy : ByteArray} {nLy : Nat} {As st0 : List MV} {Post' : Option MV → Wd → Prop} (hL : LkI own idx y cy nLy n) (hdg : decode cc pc = .ok (.invokespecial idx, 3)) (hM : CC d' mc' ms' y cy nLy none (.inr (some a) :: As) w Post') (hd : d' + 1 ≤ d) (hn : As.length = n) (hst : st0 = As.reverse ++ .inr (some a) :: st) (h8 : st.length ≤ 8) (hf : uc + mc' ≤ mc ∧ us + ms' ≤ ms)
    (k : ∀ (r : Option MV) (w' : Wd), Post' r w' → WW cc own nL rt ini d mc ms Post (uc + mc') (us + ms') (pc + 3) ls (r.toList ++ st) w') : WW cc own nL rt ini d mc ms Post uc us pc ls st0 w := by
  intro l D dA b p e_ s m args below meth c H locs A hC hb0 hS hR hLs
  have hC' := hC
  obtain ⟨hx, hb, hml, hrt, hlk, hin2, hown, hts, hE⟩ := hC'
  exact raw_callI hx hb hml hown hts hE hLs.1 hS hR hL hM ⟨hd, by show _ ≤ 40 * d; omega⟩ hn hst h8 hdg hf (fun r w' H1 locs1 hP hS1 hR1 => k r w' hP l D dA b p e_ s m args below meth c H1 locs1 A hC hb0 hS1 hR1 hLs)
/-- Object's own constructor -/
theorem r_obj {idx a : Nat} (hl : Cond.methodLink own idx objectInit ∈ lw_U ∧ Cond.instanceMethod objectInit ∈ lw_U ∧ Cond.code objectInit ⟨#[0xb1]⟩ 1 none ∈ lw_U) (hdg : decode cc pc = .ok (.invokespecial idx, 3)) (h8 : st.length ≤ 8) (hd : 1 ≤ d) (k : WW cc own nL rt ini d mc ms Post uc us (pc + 3) ls st w) : WW cc own nL rt ini d mc ms Post uc us pc ls (.inr (some a) :: st) w := by
  intro l D dA b p e_ s m args below meth c H locs A hC hb0 hS hR hLs
  have K := k l D dA b p e_ s m args below meth c H locs A hC hb0 hS hR hLs
  obtain ⟨hx, hb, hml, hrt, hlk, hin2, hown, hts, hE⟩ := hC
  have h9 : ((st.map (tv b)).map fun v => v.category).sum ≤ 8 := by rw [tv_sum]; exact h8
  refine W.objInit hx hb hown (hts _ hl.1) (hts _ hl.2.1) (hts _ hl.2.2) rfl (by rw [hml]; exact hLs.1) rfl hdg (by show 1 ≤ d; exact hd) ?_ K
  show 2 * 0 + ((st.map (tv b)).map fun v => v.category).sum + 12 ≤ 40 * d
  omega
/-! new cells -/
def newW (w : Wd) (kd n : Nat) : Wd := (w.1 + 1, (fun q => if q = w.1 then (kd, n) else w.2.1 q), (fun q j => if q = w.1 then 0 else w.2.2.1 q j), (fun q j => if q = w.1 then none else w.2.2.2 q j))
theorem wE_new {b : Nat} {dA : Nat → ClassId} {w : Wd} {kd n q : Nat} (h : q < w.1) : wE b dA (newW w kd n) q = wE b dA w q := by
  have hq : ¬ q = w.1 := by omega
  unfold wE wF fV newW
  simp only [if_neg hq]
theorem wL_new {b : Nat} {dA : Nat → ClassId} {w : Wd} {kd n : Nat} : wL b dA (newW w kd n) = wL b dA w ++ [(b + w.1, wE b dA (newW w kd n) w.1)] := by
  unfold wL
  rw [show (newW w kd n).1 = w.1 + 1 from rfl, List.range_succ, List.map_append]
  congr 1
  apply List.map_congr_left
  intro q hq
  rw [wE_new (List.mem_range.mp hq)]
theorem Rp_new {w : Wd} {kd n : Nat} {H1 : Heap} (hR : Rp D dA b w H) (z1 : H1.size = H.size + 1) (o1 : ∀ q, q < H.size → H1[q]? = H[q]?) (he : va_at D cls9 (b + w.1, wE b dA (newW w kd n) w.1) H1) : Rp D dA b (newW w kd n) H1 := by
  refine ⟨?_, by rw [z1, hR.2]; rfl⟩
  rw [wL_new]
  refine va_P.app (hR.1.kept (fun k x hx => o1 x.1 ((hR.1 k x hx).lt))) (fun k x hx => ?_)
  have hz : k < 1 := (List.getElem?_eq_some_iff.mp hx).1
  rw [show k = 0 by omega] at hx
  cases hx
  exact he
theorem va_S.new {A0 : Nat → Prop} {H0 H1 : Heap} (hS : va_S A0 H0 H locs) (z1 : H1.size = H.size + 1) (o1 : ∀ q, q < H.size → H1[q]? = H[q]?) : va_S A0 H0 H1 locs :=
  ⟨Nat.le_trans hS.1 (by omega), fun x h1 h2 => (o1 x (Nat.lt_of_lt_of_le h1 hS.1)).trans (hS.2.1 x h1 h2), hS.2.2⟩
theorem wF_def {b : Nat} {w : Wd} {k ci : Nat} (hI : ∀ j : Int, w.2.2.1 k j = 0) (hR : ∀ j : Int, w.2.2.2 k j = none) (ty : Nat → FieldType) (N : Nat) (hN : nF ci = N) (ht : ∀ j, j < N → tyC ci j = ty j) (hk : ∀ j, j < N → isI (ty j) = true ∨ defaultValue (ty j) = .null) : ∀ j, j < N → defaultValue (ty j) = vp_V (wF b w k ci) j := by
  intro j hj
  unfold vp_V
  rw [List.getD_eq_getElem?_getD, wF_get (by omega)]
  show _ = fV b w k ci j
  unfold fV
  rw [ht j hj, hI, hR]
  rcases hk j hj with h | h
  · rw [if_pos h, isI_int h]
    rfl
  · rw [h, if_neg ?_]
    · rfl
    · intro q
      rw [isI_int q] at h
      cases h
/-- a class that can be made: what the tables say of it -/
def NwOk (own : String) (idx ci : Nat) (C : String) (N : Nat) : Prop := (∃ T, ClOk ci C T N) ∧ Cond.classLink own idx C ∈ lw_U ∧ Cond.instantiable C N ∈ lw_U ∧ Cond.initialized C ∈ lw_U ∧ ∀ j, j < N → isI (tyC ci j) = true ∨ defaultValue (tyC ci j) = .null
theorem r_new {idx ci N : Nat} {C : String} (hN : NwOk own idx ci C N) (hdg : decode cc pc = .ok (.new idx, 3)) (hf : uc + 1 ≤ mc ∧ us + N ≤ ms) (k : WW cc own nL rt ini d mc ms Post (uc + 1) (us + N) (pc + 3) ls (.inr (some w.1) :: st) (newW w ci 0)) : WW cc own nL rt ini d mc ms Post uc us pc ls st w := by
  intro l D dA b p e_ s m args below meth c H locs A hC hb0 hS hR hLs
  have hC' := hC
  obtain ⟨hx, hb, hml, hrt, hlk, hin2, hown, hts, hE⟩ := hC'
  obtain ⟨⟨T, hc100, hcl, hin, hty, hnm, hNF⟩, hl1, hl2, hl3, hdef⟩ := hN
  have hKn := hE.1.1 ci _ hcl
  refine W.newcK hx hb hown (hts _ hl1) (hts _ hl2) (hts _ hl3) rfl hdg hf.1 hf.2 hKn.2.1 rfl fun H1 kC hkC e1 z1 o1 => ?_
  have e9 : wE b dA (newW w ci 0) w.1 = .inr (ci, wF b (newW w ci 0) w.1 ci) := by
    unfold wE
    rw [show (newW w ci 0).2.1 w.1 = (ci, 0) from if_pos rfl, if_pos hc100]
  have hR1 : Rp D dA b (newW w ci 0) H1 := by
    refine Rp_new hR z1 o1 ?_
    rw [e9, ← hR.2]
    exact ⟨_, hcl, (u_born (tyC ci) hts hin hKn hkC e1 hty).to (wF_def (fun j => if_pos rfl) (fun j => if_pos rfl) (tyC ci) N hNF (fun j _ => rfl) hdef)⟩
  rw [hR.2]
  exact k l D dA b p e_ s m args below meth c H1 locs A hC hb0 (hS.new z1 o1) hR1 hLs
theorem r_newa {n t : Nat} {z : Int} {aty : ArrayType} (ht : (t = 0 ∧ aty = .int)) (hl : Cond.arrayClass (newarray.typeOf aty) ∈ lw_U) (hz : z = n) (hn : n ≤ 100000) (hdg : decode cc pc = .ok (.newarray aty, 2)) (hf : uc + 1 ≤ mc ∧ us + n ≤ ms) (k : WW cc own nL rt ini d mc ms Post (uc + 1) (us + n) (pc + 2) ls (.inr (some w.1) :: st) (newW w (100 + t) n)) : WW cc own nL rt ini d mc ms Post uc us pc ls (.inl z :: st) w := by
  intro l D dA b p e_ s m args below meth c H locs A hC hb0 hS hR hLs
  have hC' := hC
  obtain ⟨hx, hb, hml, hrt, hlk, hin2, hown, hts, hE⟩ := hC'
  subst hz
  have hneg : ¬ Int32.ofInt (n : Int) < 0 := by
    rw [← i32_0, i32_lt (by omega) (by omega)]
    omega
  have hN : (Int32.ofInt (n : Int)).toNatClampNeg = n := by rw [i32_cl (by omega)]; omega
  have go : ∀ ty : FieldType, newarray.typeOf aty = ty → (tysA dA)[t]? = some (dA t, ty) → defaultValue ty = .int 0 → componentBytes ty ≤ 8 → va_RA s (dA t) ty = (s.vm.findClass ("[" ++ ty.toString) = some (dA t)) → t < 2 → W p l e_ (rmD d mc ms) s m args below meth c H locs uc us (MQ below (QP D dA b Post) args s mc ms (fun q => b ≤ q)) (F0 m pc A (.int (Int32.ofInt (n : Int)) :: st.map (tv b))) := by
    intro ty hty htt hdv hcb hra ht2
    subst hty
    refine va_newaK hx hb (hts _ hl) rfl hdg rfl hneg hN (Nat.le_trans (Nat.mul_le_mul_left n hcb) (by omega)) hf.1 hf.2 rfl fun H1 cA e1 z1 o1 hAr hNm => ?_
    have hcA : cA = dA t := by
      have h9 := (hE.1.2 t _ htt).2
      rw [hra] at h9
      exact Option.some.inj (hNm.symm.trans h9)
    subst hcA
    have hR1 : Rp D dA b (newW w (100 + t) n) H1 := by
      refine Rp_new hR z1 o1 ?_
      have e9 : wE b dA (newW w (100 + t) n) w.1 = .inl (dA t, n, .inl (fun _ => 0)) := by
        unfold wE
        rw [show (newW w (100 + t) n).2.1 w.1 = (100 + t, n) from if_pos rfl, if_neg (by show ¬ 100 + t < 100; omega), if_pos (by show 100 + t < 102; omega)]
        show Sum.inl (dA (100 + t - 100), n, Sum.inl (fun j : Nat => Int32.ofInt (if w.1 = w.1 then 0 else _))) = _
        rw [Nat.add_sub_cancel_left]
        simp only [if_true]
        rfl
      rw [e9, ← hR.2]
      show H1[H.size]? = some (vp_cell _ _)
      rw [e1, vp_cell_i, hdv]
    rw [hR.2]
    exact k l D dA b p e_ s m args below meth c H1 locs A hC hb0 (hS.new z1 o1) hR1 hLs
  obtain ⟨rfl, rfl⟩ := ht
  exact go .int rfl rfl rfl (by decide) rfl (by omega)
theorem r_newq {idx n t : Nat} {z : Int} {C : String} (ht : (t = 2 ∧ C = RX3) ∨ (t = 3 ∧ C = RX5) ∨ (t = 4 ∧ C = RX1)) (hl : Cond.classLink own idx C ∈ lw_U) (hz : z = n) (hn : n ≤ 100000) (hdg : decode cc pc = .ok (.anewarray idx, 3)) (hf : uc + 1 ≤ mc ∧ us + n ≤ ms) (k : WW cc own nL rt ini d mc ms Post (uc + 1) (us + n) (pc + 3) ls (.inr (some w.1) :: st) (newW w (100 + t) n)) : WW cc own nL rt ini d mc ms Post uc us pc ls (.inl z :: st) w := by
  intro l D dA b p e_ s m args below meth c H locs A hC hb0 hS hR hLs
  have hC' := hC
  obtain ⟨hx, hb, hml, hrt, hlk, hin2, hown, hts, hE⟩ := hC'
  subst hz
  have hneg : ¬ Int32.ofInt (n : Int) < 0 := by
    rw [← i32_0, i32_lt (by omega) (by omega)]
    omega
  have hN : (Int32.ofInt (n : Int)).toNatClampNeg = n := by rw [i32_cl (by omega)]; omega
  have go : (tysA dA)[t]? = some (dA t, .object C) → va_AO C s → 2 ≤ t → W p l e_ (rmD d mc ms) s m args below meth c H locs uc us (MQ below (QP D dA b Post) args s mc ms (fun q => b ≤ q)) (F0 m pc A (.int (Int32.ofInt (n : Int)) :: st.map (tv b))) := by
    intro htt hao ht2
    refine W.anew hx hb hown (hts _ hl) (va_AO.use hao) rfl hdg rfl hneg (by rw [hN]; omega) hf.1 (by rw [hN]; exact hf.2) fun cA kA comp f1 f2 f3 f4 => ?_
    rw [hN]
    generalize hH1 : H.push ({ cls := cA, slots := Array.replicate n .null, vm := .none } : Cell) = H1
    have z1 : H1.size = H.size + 1 := by rw [← hH1, Array.size_push]
    have e1 : H1[H.size]? = some (arrV cA n (fun _ => .null)) := by rw [← hH1, Array.getElem?_push_size, ← arrV_new]
    have o1 : ∀ q : Nat, q < H.size → H1[q]? = H[q]? := fun q hq => by rw [← hH1, Array.getElem?_push, if_neg (Nat.ne_of_lt hq)]
    have hcA : cA = dA t := by
      obtain ⟨kA2, comp2, g1, g2, g3, g4⟩ := (hE.1.2 t _ htt).2
      exact Option.some.inj (f1.symm.trans g4)
    subst hcA
    have hR1 : Rp D dA b (newW w (100 + t) n) H1 := by
      refine Rp_new hR z1 o1 ?_
      have e9 : wE b dA (newW w (100 + t) n) w.1 = .inl (dA t, n, .inr (.inr (.inr (.inr (fun _ => none))))) := by
        unfold wE
        rw [show (newW w (100 + t) n).2.1 w.1 = (100 + t, n) from if_pos rfl, if_neg (by show ¬ 100 + t < 100; omega), if_neg (by show ¬ 100 + t < 102; omega)]
        show Sum.inl (dA (100 + t - 100), n, Sum.inr (Sum.inr (Sum.inr (Sum.inr (fun j : Nat => (if w.1 = w.1 then none else _).map _))))) = _
        rw [Nat.add_sub_cancel_left]
        simp only [if_true]
        rfl
      rw [e9, ← hR.2]
      show H1[H.size]? = some (vp_cell _ _)
      rw [e1, vp_cell_q]
      rfl
    rw [hR.2]
    exact k l D dA b p e_ s m args below meth c H1 locs A hC hb0 (hS.new z1 o1) hR1 hLs
  rcases ht with ⟨rfl, rfl⟩ | ⟨rfl, rfl⟩ | ⟨rfl, rfl⟩
  · exact go rfl hE.2.2.1 (by omega)
  · exact go rfl hE.2.2.2.1 (by omega)
  · exact go rfl hE.2.2.2.2.1 (by omega)
/-! a method -/
theorem lg_some {as : List MV} {n i : Nat} {v : MV} (h : lg (as.map some ++ List.replicate n none) i = some v) : as[i]? = some v := by
  induction as generalizing i with
  | nil =>
    exfalso
    have hk : ∀ (n i : Nat), lg (List.replicate n none) i = none := by
      intro n
      induction n with
      | zero => intro i; rfl
      | succ n ih =>
        intro i
        cases i with
        | zero => rfl
        | succ i => exact ih i
    have h' : lg (List.replicate n none) i = some v := h
    rw [hk] at h'
    cases h'
  | cons a l ih =>
    cases i with
    | zero => exact h
    | succ i => exact ih h
theorem CC_of {y : MethodName} {as : List MV} (hy : plainName y.cls = true) (hcls : y.cls = own) (hini : ini = true → y.name = "<init>") (hlen : as.length ≤ nL) (h : WW cc own nL rt ini d mc ms Post 0 0 0 (as.map some ++ List.replicate (nL - as.length) none) [] w) : CC d mc ms y cc nL rt as w Post := by
  intro l D dA b
  refine Met.ofW (cc := cc) (maxL := nL) (ret := rt) hy rfl ?_
  intro p e_ s m args below meth c s₁ B hml hv
  obtain ⟨rfl, hR, hE⟩ := hv
  have hx := B.exec
  have hb := B.bytes
  have hr := B.returns
  have hts := atoms_spec (ws := Cond.code y cc nL rt :: lw_U) B.pre
  have hown : s.vm.findClass own = some m.cls := hcls ▸ findClass_of_methodNamed B.named
  have hlocks := B.notSynchronized
  have hin2 : ini = true → meth.name = "<init>" := fun q => by rw [(name_of_methodNamed B.named B.method).1]; exact hini q
  have hC : Cx cc own nL rt ini D dA p s m (as.map (tv b)).toArray meth c := ⟨hx, hb, hml, hr, hlocks, hin2, hown, fun q hq => hts q (List.mem_cons_of_mem _ hq), hE⟩
  have hcat : ∀ v ∈ as.map (tv b), v.category = 1 := fun v hv => by
    obtain ⟨q, -, rfl⟩ := List.mem_map.mp hv
    exact tv_cat b q
  rw [entry_eq m (as.map (tv b)) hcat nL]
  refine h l D dA b p e_ s m _ below meth c s.heap [] _ hC (by rw [hR.2]; omega) va_S.rf hR ?_
  have hsz : ((as.map (tv b)).map Slot.val ++ List.replicate (nL - (as.map (tv b)).length) Slot.unset).length = nL := by simp; omega
  refine ⟨by simpa using hsz, ⟨fun i v hv h2 => ?_, fun i hv => ?_⟩, fun i v hv => ?_⟩
  · exfalso
    have hm := List.mem_of_getElem? (by simpa using hv : ((as.map (tv b)).map Slot.val ++ List.replicate (nL - (as.map (tv b)).length) Slot.unset)[i]? = some (Slot.val v))
    rcases List.mem_append.mp hm with q | q
    · obtain ⟨x, hx2, hx3⟩ := List.mem_map.mp q
      cases hx3
      rw [hcat _ hx2] at h2
      cases h2
    · have := List.eq_of_mem_replicate q
      cases this
  · exfalso
    have hm := List.mem_of_getElem? (by simpa using hv : ((as.map (tv b)).map Slot.val ++ List.replicate (nL - (as.map (tv b)).length) Slot.unset)[i]? = some Slot.second)
    rcases List.mem_append.mp hm with q | q
    · obtain ⟨x, hx2, hx3⟩ := List.mem_map.mp q
      cases hx3
    · have := List.eq_of_mem_replicate q
      cases this
  · have h9 := lg_some hv
    have hlt := (List.getElem?_eq_some_iff.mp h9).1
    show ((as.map (tv b)).map Slot.val ++ List.replicate (nL - (as.map (tv b)).length) Slot.unset).toArray[i]? = _
    rw [List.getElem?_toArray, List.getElem?_append_left (by simpa using hlt), List.getElem?_map, List.getElem?_map, h9]
    rfl
end CW
