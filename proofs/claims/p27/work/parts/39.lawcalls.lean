/-! the law's calls of its own methods -/
theorem env_blind {D : va_G} {dA : Nat → ClassId} {U : State} (g : JFrame) (mk : MethodId) (a : Array Value) (h3 : EnvK D dA U) : EnvK D dA (U.calling g mk a) :=
  ⟨va_K.moved (u := U) (U := U.calling g mk a) (Vm.Alike.refl U.vm) h3.1, fun q hq => va_Nw.same rfl (rfl : U.vm = (U.calling g mk a).vm) (h3.2.1 q hq), va_AO.moved (u := U) (U := U.calling g mk a) (Vm.Alike.refl U.vm) h3.2.2.1, va_AO.moved (u := U) (U := U.calling g mk a) (Vm.Alike.refl U.vm) h3.2.2.2.1, va_AO.moved (u := U) (U := U.calling g mk a) (Vm.Alike.refl U.vm) h3.2.2.2.2.1, gr_AI.moved (s := U) (U := U.calling g mk a) (Vm.Alike.refl U.vm) h3.2.2.2.2.2⟩
section KL
variable {cc : ByteArray} {own : String} {nL d b : Nat} {J : Nat → List (Nat × Value) → List Value → Wd → Prop} {pc : Nat} {lv : List (Nat × Value)} {st : List Value} {w : Wd} {a : AS}
theorem j_tale (hJ : KOk cc own nL d b J) (hdd : 9 ≤ d) (hw : WA a w) {idx : Nat} (hL : LkS own idx yL_tale cL_tale 5 (some .long) 1) (hdg : decode cc pc = .ok (.invokestatic idx, 3)) (h8 : (st.map fun v => v.category).sum ≤ 8) (k : ∀ w' : Wd, WA a w' → J (pc + 3) lv (.long (talF a) :: st) w') : J pc lv (.ref (b + 0) :: st) w := by
  refine j_callSG hJ (As := [.ref (b + 0)]) (BB := fun D dA U => Rp D dA b w U.heap ∧ EnvK D dA U) (Qc := fun D dA => QL D dA b (fun x w' => x = talF a ∧ WA a w')) (PV := fun v w' => v = some (.long (talF a)) ∧ WA a w') hL hdg (fun l D dA => m_tale hw l D dA b) ?_ hdd rfl rfl h8 (fun D dA U h1 h2 => ⟨h1, h2⟩) ?_ ?_
  · rintro D dA v U g mk ⟨h1, h2, h3⟩
    exact ⟨h1, h2, env_blind g mk v h3⟩
  · rintro D dA u t v hu ⟨⟨x, w', hv, ⟨rfl, hw'⟩, hR'⟩, hF⟩
    cases hv
    exact ⟨w', ⟨rfl, hw'⟩, hR', hF⟩
  · rintro v w' ⟨rfl, hw'⟩
    exact k w' hw'
theorem j_does (hJ : KOk cc own nL d b J) (hdd : 6 ≤ d) (hw : WA a w) {idx : Nat} {x : Int} (hx : -2147483648 ≤ x ∧ x ≤ 2147483647) (hL : LkS own idx yL_does cL_does 4 (some .int) 2) (hdg : decode cc pc = .ok (.invokestatic idx, 3)) (h8 : (st.map fun v => v.category).sum ≤ 8) (k : ∀ (z : Int) (a1 : AS) (w' : Wd), OkC a (z, a1) → WA a1 w' → J (pc + 3) lv (vi z :: st) w') : J pc lv (vi x :: .ref (b + 0) :: st) w := by
  obtain ⟨hA, I, R, π, sg, rfl, hI⟩ := hw
  refine j_callSG hJ (As := [.ref (b + 0), vi x]) (BB := fun D dA U => Rp D dA b (290, ShF, I, R) U.heap ∧ EnvK D dA U) (Qc := fun D dA => QP D dA b (PZR (fun z I1 R1 => ∃ a1 : AS, OkC a (z, a1) ∧ ∃ π1 sg1 : Nat → Nat, CI I1 R1 π1 sg1 a1))) (PV := fun v w' => ∃ (z : Int) (a1 : AS), v = some (vi z) ∧ OkC a (z, a1) ∧ WA a1 w') hL hdg (fun l D dA => c_does I R π sg a hI hA x hx l D dA b) ?_ hdd rfl rfl h8 (fun D dA U h1 h2 => ⟨h1, h2⟩) ?_ ?_
  · rintro D dA v U g mk ⟨h1, h2, h3⟩
    exact ⟨h1, h2, env_blind g mk v h3⟩
  · rintro D dA u t v hu ⟨⟨r, w', hv, ⟨z, I1, R1, rfl, rfl, a1, hop, π1, sg1, hI1⟩, hR'⟩, hF⟩
    cases hv
    exact ⟨_, ⟨z, a1, rfl, hop, hop.2.1, I1, R1, π1, sg1, rfl, hI1⟩, hR', hF⟩
  · rintro v w' ⟨z, a1, rfl, hop, hw'⟩
    exact k z a1 w' hop hw'
end KL
/-! the script's numbers -/
def QI (D : va_G) (dA : Nat → ClassId) (b : Nat) (w : Wd) : Array Value → State → Outcome → State → Prop := fun _ st oc t => ((∃ x : Int32, oc = .returned (some (.int x))) ∧ Rp D dA b w t.heap) ∧ va_F (fun q => b ≤ q) st t
theorem m_cell {w : Wd} {sb L b : Nat} {xs : Nat → Int32} {k : Int} (hk : 0 ≤ k ∧ k ≤ 100) (hL : L ≤ 260) (hsb : sb < b) (l : Launch) (D : va_G) (dA : Nat → ClassId) : Met l yL_cell (Cond.code yL_cell cL_cell 2 (some .int) :: lw_U) (rmD 0 0 0) (va_Pc [.ref sb, vi k] (fun U => (Rp D dA b w U.heap ∧ EnvK D dA U) ∧ va_X sb L xs U U.heap)) (QI D dA b w) 0 0 (fun q => b ≤ q) := by
  refine Met.ofW (cc := cL_cell) (maxL := 2) (ret := some .int) (by decide +kernel) rfl ?_
  intro p e_ s m args below meth c s₁ B hml hv
  obtain ⟨rfl, ⟨hR, hE⟩, hX⟩ := hv
  have hx := B.exec
  have hb := B.bytes
  have hr := B.returns
  have hlocks := B.notSynchronized
  have hbl : sb < s.heap.size := by rw [hR.2]; omega
  have hA : ¬ (fun q : Nat => b ≤ q) sb := Nat.not_le.mpr hsb
  have hS : va_S (fun q : Nat => b ≤ q) s.heap s.heap [] := va_S.rf
  have hl := lv_entry ([.ref sb, vi k]) (n := 2) (Nat.le_of_ble_eq_true rfl)
  rw [lg_entry_eq]
  generalize (lg_sl ([.ref sb, vi k]) ++ List.replicate (2 - (lg_sl ([.ref sb, vi k])).length) Slot.unset).toArray = ls at hl ⊢
  have hl : lv_has ls 2 [(0, .ref sb), (1, vi k)] := hl
  have hret : ∀ (x : Int32) (t : State), t.heap = s.heap → s.WarmedH t.vm → QI D dA b w #[.ref sb, vi k] s (.returned (some (.int x))) t := fun x t ht hW => ⟨⟨⟨x, rfl⟩, by rw [ht]; exact hR⟩, hS.F ht⟩
  refine lv_iload_n hx hb dL_cell_0 rfl (lv_at hl 1 rfl) ?_
  refine lv_aload_n hx hb dL_cell_1 rfl (lv_at hl 0 rfl) ?_
  refine va_slen hx hb hX hbl hA hS dL_cell_2 ?_
  have e5 : Int32.ofNat L = Int32.ofInt (L : Int) := Int32.ofInt_eq_ofNat.symm
  rw [e5]
  refine lv_icmp_ge (tgt := 12) hx hb dL_cell_3 (by decide) (fun h3 => ?_) (fun h3 => ?_)
  · refine lv_sipush hx hb dL_cell_12 (i32_sip (by decide)) ?_
    refine lv_iload_n hx hb dL_cell_15 rfl (lv_at hl 1 rfl) ?_
    refine lv_iconst hx hb dL_cell_16 rfl ?_
    refine lv_iadd hx hb dL_cell_17 ?_
    refine lv_imul hx hb dL_cell_18 ?_
    refine lv_iload_n hx hb dL_cell_19 rfl (lv_at hl 1 rfl) ?_
    refine lv_bipush hx hb dL_cell_20 (i32_bip (by decide)) ?_
    refine lv_iadd hx hb dL_cell_22 ?_
    refine lv_imul hx hb dL_cell_23 ?_
    exact W.iret hx hb hr (hret _) (fun q hq => absurd hq List.not_mem_nil) dL_cell_24 hlocks
  · have hkL : k < L := by
      rw [i32_le (by omega) (by omega)] at h3
      omega
    refine lv_aload_n hx hb dL_cell_6 rfl (lv_at hl 0 rfl) ?_
    refine lv_iload_n hx hb dL_cell_7 rfl (lv_at hl 1 rfl) ?_
    refine va_sld hx hb hX hbl hA hS (i32_in (by omega) (by omega)) dL_cell_8 ?_
    refine lv_goto (tgt := 24) hx hb dL_cell_9 (by decide) ?_
    exact W.iret hx hb hr (hret _) (fun q hq => absurd hq List.not_mem_nil) dL_cell_24 hlocks
/-- the law's own place: its script too -/
def KOkX (sb L : Nat) (xs : Nat → Int32) (b : Nat) (J : Nat → List (Nat × Value) → List Value → Wd → Prop) : Prop :=
  ∃ (p : Program) (l : Launch) (e_ : Env) (R : Room) (s : State) (m : MethodId) (args : Array Value) (below : List Frame) (meth : Method) (c : Code) (D : va_G) (dA : Nat → ClassId) (cells slots : Nat) (Q : State → Prop),
    J = KJ p l e_ R s m args below meth c b D dA 19 cells slots Q ∧ p.tables.exec = Jvm.exec ∧ c.code = code ∧ c.maxLocals = 19 ∧ s.vm.findClass "TabLinesLaw" = some m.cls ∧ (∀ q ∈ lw_U, q.before args s = true) ∧ EnvK D dA s ∧ (∀ d' : Nat, d' + 1 ≤ 9 → d' + 1 ≤ R.frames ∧ 39 + 40 * d' ≤ R.locals) ∧ (cells ≤ R.cells ∧ slots ≤ R.slots) ∧ va_X sb L xs s s.heap ∧ sb < b ∧ b = s.heap.size ∧ L ≤ 260
theorem KOkX.ok {sb L b : Nat} {xs : Nat → Int32} {J : Nat → List (Nat × Value) → List Value → Wd → Prop} (h : KOkX sb L xs b J) : KOk code "TabLinesLaw" 19 9 b J := by
  obtain ⟨p, l, e_, R, s, m, args, below, meth, c, D, dA, cells, slots, Q, h1, h2, h3, h4, h5, h6, h7, h8, h9, -⟩ := h
  exact ⟨p, l, e_, R, s, m, args, below, meth, c, D, dA, cells, slots, Q, h1, h2, h3, h4, h5, h6, h7, h8, h9⟩
theorem j_cell {sb L b pc : Nat} {xs : Nat → Int32} {J : Nat → List (Nat × Value) → List Value → Wd → Prop} {lv : List (Nat × Value)} {st : List Value} {w : Wd} (hJ : KOkX sb L xs b J) {k0 : Int} (hk : 0 ≤ k0 ∧ k0 ≤ 100) (hdg : decode code pc = .ok (.invokestatic 73, 3)) (h8 : (st.map fun v => v.category).sum ≤ 8) (k : ∀ x : Int, -2147483648 ≤ x ∧ x ≤ 2147483647 → J (pc + 3) lv (vi x :: st) w) : J pc lv (vi k0 :: .ref sb :: st) w := by
  obtain ⟨p, l, e_, R, s, m, args, below, meth, c, D, dA, cells, slots, Q, rfl, hx, hb, hml, hown, hts, hE, hd, hcs, hX, hsb, hbs, hL260⟩ := hJ
  intro H locs ls hS hR hl
  obtain ⟨⟨hini, hcode, hd3, hn20⟩, hlk, hstt⟩ := lk_L_73
  have hd9 := hd 0 (by omega)
  have S : CallFix p m c code 19 s args lw_U "TabLinesLaw" := ⟨hx, hb, hml, hown, hts⟩
  have hR2 : (rmD 0 0 0).frames + 1 ≤ R.frames ∧ 8 + (2 + 11) + (rmD 0 0 0).locals ≤ R.locals := ⟨hd9.1, by show 8 + (2 + 11) + 40 * 0 ≤ _; omega⟩
  have hHx : va_X sb L xs s H := hX.kept (hS.2.1 sb (by omega) (Nat.not_le.mpr hsb))
  have hp : PreS s H (va_Pc [.ref sb, vi k0] (fun U => (Rp D dA b w U.heap ∧ EnvK D dA U) ∧ va_X sb L xs U U.heap)) [.ref sb, vi k0] := by
    refine ⟨?_, fun U hU hW => ⟨rfl, ⟨by rw [hU]; exact hR, EnvK.moved hW hE⟩, by rw [hU]; exact va_X.moved hW.alike hHx⟩⟩
    rintro v U g mk ⟨h1, ⟨h2, h3⟩, h4⟩
    exact ⟨h1, ⟨h2, env_blind g mk v h3⟩, va_X.moved (u := U) (U := U.calling g mk v) (Vm.Alike.refl U.vm) h4⟩
  have hkk : ∀ (v : Option Value) (w' : Wd) (H1 : Heap) (locs1 : List Loc), ((∃ x : Int32, v = some (.int x)) ∧ w' = w) → va_S (fun q => b ≤ q) s.heap H1 locs1 → Rp D dA b w' H1 → W p l e_ R s m args below meth c H1 locs1 (cells + 0) (slots + 0) Q (F0 m (pc + 3) ls (v.toList ++ st)) := by
    rintro v w' H1 locs1 ⟨⟨x, rfl⟩, rfl⟩ hS1 hR1
    have k := k x.toInt (rgx x) H1 locs1 ls hS1 hR1 hl
    have e : vi x.toInt = .int x := by
      show Value.int (Int32.ofInt _) = _
      rw [Int32.ofInt_toInt]
    rw [e] at k
    exact k
  have hqq : ∀ (u t : State) (v : Option Value), u.heap = H → QI D dA b w [Value.ref sb, vi k0].toArray u (.returned v) t → ∃ w' : Wd, ((∃ x : Int32, v = some (.int x)) ∧ w' = w) ∧ Rp D dA b w' t.heap ∧ va_F (fun q => b ≤ q) u t := by
    rintro u t v hu ⟨⟨⟨x, hv⟩, hR'⟩, hF⟩
    cases hv
    exact ⟨w, ⟨⟨x, rfl⟩, rfl⟩, hR', hF⟩
  rcases hlk with hlk | ⟨host, hlk⟩
  · have cw := va_cwS (R := R) (s := s) (args := args) (own := "TabLinesLaw") (index := 73) (y := yL_cell) (bytes := cL_cell) (maxL := 2) (ret := some .int) (rm := rmD 0 0 0) (Ts := lw_U) (ws := Cond.code yL_cell cL_cell 2 (some .int) :: lw_U) (ws' := lw_U) 2 hts (lkGood (ws := [.methodLink "TabLinesLaw" 73 yL_cell, .static yL_cell, .initialized yL_cell.cls]) (by
      intro q hq
      simp only [List.mem_cons, List.not_mem_nil, or_false] at hq
      rcases hq with rfl | rfl | rfl
      · exact hlk
      · exact hstt
      · exact hini) hcode) rfl rfl rfl hd3 hR2
    exact run_goR (PV := fun v w' => (∃ x : Int32, v = some (.int x)) ∧ w' = w) hS (va_runS S (m_cell hk hL260 hsb l D dA) cw hp rfl rfl hl.1 rfl (lv_room h8) hdg ⟨by omega, by omega⟩) hqq hkk
  · exfalso
    simp [nestT, RX0, RX2, RX3, RX4, RX5, RX6, RX7, RX1] at hlk
