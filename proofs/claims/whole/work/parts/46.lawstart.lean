/-! what the tables say at the law's start -/
theorem env_cls {s : State} {args : Array Value} (hts : ∀ w ∈ lw_tbl, w.before args s = true) : ∃ D : va_G, ∀ (k : Nat) (q : vw_C), cls9[k]? = some q → u_Kn s q.1 q.2.1 q.2.2 (D.1 k) (D.2 k) := by
  have h : ∀ k : Nat, ∃ (cC : ClassId) (iS : Nat → Nat), ∀ q : vw_C, cls9[k]? = some q → u_Kn s q.1 q.2.1 q.2.2 cC iS := by
    intro k
    match k with
    | 0 =>
      obtain ⟨cC, iS, h⟩ := u_known (C := RX0) (T := TX0) (N := 12) (n := 12) hts (fun w hw => lt_U (inU_0 w hw)) (hts _ (lt_U nw_X7_31.2.2.1))
      exact ⟨cC, iS, fun q hq => by cases hq; exact h⟩
    | 1 =>
      obtain ⟨cC, iS, h⟩ := u_known (C := RX1) (T := TX1) (N := 3) (n := 3) hts (fun w hw => lt_U (inU_1 w hw)) (hts _ (lt_U nw_X3_24.2.2.1))
      exact ⟨cC, iS, fun q hq => by cases hq; exact h⟩
    | 2 =>
      obtain ⟨cC, iS, h⟩ := u_known (C := RX2) (T := TX2) (N := 6) (n := 6) hts (fun w hw => lt_U (inU_2 w hw)) (hts _ (lt_U nw_X0_18.2.2.1))
      exact ⟨cC, iS, fun q hq => by cases hq; exact h⟩
    | 3 =>
      obtain ⟨cC, iS, h⟩ := u_known (C := RX3) (T := TX3) (N := 5) (n := 5) hts (fun w hw => lt_U (inU_3 w hw)) (hts _ (lt_U nw_X7_9.2.2.1))
      exact ⟨cC, iS, fun q hq => by cases hq; exact h⟩
    | 4 =>
      obtain ⟨cC, iS, h⟩ := u_known (C := RX4) (T := TX4) (N := 4) (n := 4) hts (fun w hw => lt_U (inU_4 w hw)) (hts _ (lt_U nw_X7_24.2.2.1))
      exact ⟨cC, iS, fun q hq => by cases hq; exact h⟩
    | 5 =>
      obtain ⟨cC, iS, h⟩ := u_known (C := RX5) (T := TX5) (N := 3) (n := 3) hts (fun w hw => lt_U (inU_5 w hw)) (hts _ (lt_U nw_X3_18.2.2.1))
      exact ⟨cC, iS, fun q hq => by cases hq; exact h⟩
    | 6 =>
      obtain ⟨cC, iS, h⟩ := u_known (C := RX6) (T := TX6) (N := 6) (n := 6) hts (fun w hw => lt_U (inU_6 w hw)) (hts _ (lt_U nw_X0_9.2.2.1))
      exact ⟨cC, iS, fun q hq => by cases hq; exact h⟩
    | 7 =>
      obtain ⟨cC, iS, h⟩ := u_known (C := RX7) (T := TX7) (N := 7) (n := 7) hts (fun w hw => lt_U (inU_7 w hw)) (hts _ (lt_U nw_L_7.2.2.1))
      exact ⟨cC, iS, fun q hq => by cases hq; exact h⟩
    | 8 =>
      obtain ⟨cC, iS, h⟩ := u_known (C := RX8) (T := TX8) (N := 18) (n := 18) hts (fun w hw => lt_U (inU_8 w hw)) (hts _ (lt_U nw_L_10.2.2.1))
      exact ⟨cC, iS, fun q hq => by cases hq; exact h⟩
    | k + 9 => exact ⟨0, fun _ => 0, fun q hq => by simp at hq⟩
  exact ⟨(fun k => Classical.choose (h k), fun k => Classical.choose (Classical.choose_spec (h k))), fun k q hq => Classical.choose_spec (Classical.choose_spec (h k)) q hq⟩
theorem env_nest {s : State} {args : Array Value} (hts : ∀ w ∈ lw_tbl, w.before args s = true) : ∀ q ∈ nestT, va_Nw (.methodLinkNest q.1 q.2.1 q.2.2.1 q.2.2.2) s := by
  have g : ∀ (i : Nat) (w : Cond), lw_tbl[i]? = some w → w.onTables = true → va_Nw w s := fun i w h ho => va_Nw.of ho (hts w (List.mem_of_getElem? h))
  intro q hq
  simp only [nestT, List.mem_cons, List.not_mem_nil, or_false] at hq
  rcases hq with rfl | rfl | rfl | rfl | rfl | rfl | rfl | rfl | rfl | rfl | rfl | rfl | rfl | rfl
  · exact g 81 _ (by decide +kernel) rfl
  · exact g 102 _ (by decide +kernel) rfl
  · exact g 143 _ (by decide +kernel) rfl
  · exact g 148 _ (by decide +kernel) rfl
  · exact g 165 _ (by decide +kernel) rfl
  · exact g 171 _ (by decide +kernel) rfl
  · exact g 198 _ (by decide +kernel) rfl
  · exact g 335 _ (by decide +kernel) rfl
  · exact g 390 _ (by decide +kernel) rfl
  · exact g 397 _ (by decide +kernel) rfl
  · exact g 430 _ (by decide +kernel) rfl
  · exact g 475 _ (by decide +kernel) rfl
  · exact g 541 _ (by decide +kernel) rfl
  · exact g 605 _ (by decide +kernel) rfl
theorem arrOfT_k {s : State} {cA comp : ClassId} {k : Class} {ty : FieldType} (hk : s.vm.classes[cA]? = some k) (hkd : k.kind = .array comp ty) : ArrOfT s cA ty := fun n z => ⟨fun q h => (by cases h), k, hk, comp, hkd⟩
theorem env_start {s : State} {args : Array Value} (hts : ∀ w ∈ lw_tbl, w.before args s = true) : ∃ (D : va_G) (dA : Nat → ClassId), EnvK D dA s := by
  obtain ⟨D, hD⟩ := env_cls hts
  have hN := env_nest hts
  have o3 : (Cond.arrayOver (.object RX3)).before args s = true := hts (.arrayOver (.object RX3)) (List.mem_of_getElem? (i := 140) (by decide +kernel))
  have o5 : (Cond.arrayOver (.object RX5)).before args s = true := hts (.arrayOver (.object RX5)) (List.mem_of_getElem? (i := 77) (by decide +kernel))
  have o1 : (Cond.arrayOver (.object RX1)).before args s = true := hts (.arrayOver (.object RX1)) (List.mem_of_getElem? (i := 79) (by decide +kernel))
  have oA : (Cond.arrayOver (.array .int)).before args s = true := hts (.arrayOver (.array .int)) (List.mem_of_getElem? (i := 225) (by decide +kernel))
  obtain ⟨cI, kI, eI, fI, gI, jI⟩ := Cond.arrayClass_spec (hts _ (lt_U ac_int))
  obtain ⟨cB, kB, eB, fB, gB, jB⟩ := Cond.arrayClass_spec (hts _ (lt_U ac_byte))
  obtain ⟨e3, c3, k3, f3, i3, g3, j3, n3⟩ := Cond.arrayOver_spec o3
  obtain ⟨e5, c5, k5, f5, i5, g5, j5, n5⟩ := Cond.arrayOver_spec o5
  obtain ⟨e1, c1, k1, f1, i1, g1, j1, n1⟩ := Cond.arrayOver_spec o1
  obtain ⟨eA, cA, kA, fA, iA, gA, jA, nA⟩ := arrayOverA_spec oA
  have hIA : eA = cI := Option.some.inj (fA.symm.trans fI)
  subst hIA
  refine ⟨D, fun k => match k with | 0 => eA | 1 => cB | 2 => c3 | 3 => c5 | 4 => c1 | _ => cA, ⟨hD, fun k q hq => ?_⟩, hN, va_AO.of o3, va_AO.of o5, va_AO.of o1, ⟨kA, kI, eI, gA, jA, gI, jI⟩⟩
  match k, hq with
  | 0, hq => cases hq; exact ⟨arrOfT_k gI jI, fI⟩
  | 1, hq => cases hq; exact ⟨arrOfT_k gB jB, fB⟩
  | 2, hq => cases hq; exact ⟨arrOfT_k g3 j3, k3, e3, g3, j3, f3, n3⟩
  | 3, hq => cases hq; exact ⟨arrOfT_k g5 j5, k5, e5, g5, j5, f5, n5⟩
  | 4, hq => cases hq; exact ⟨arrOfT_k g1 j1, k1, e1, g1, j1, f1, n1⟩
  | 5, hq => cases hq; exact ⟨arrOfT_k gA jA, nA⟩
  | k + 6, hq => simp [tysA] at hq
