/-! the first world: what holds of it -/
def Iz : Mem := fun _ _ => 0
def Rz : RMem := fun _ _ => none
def If0 : Mem := svI (t4I Iz) 6
def Rf0 : RMem := svR (t5R Rz) 6
def y0 : YV := (0, 4, fun _ => 0)
def p0 : YV := (0, 0, fun _ => 0)
def s0 : CS := ((40, 8, 0), (fun _ => y0), fun _ => p0)
def a0 : AS := (s0, 0, (fun _ => s0), 0, fun _ => 0)
theorem Cl_z : Cl 0 Iz Rz := fun _ _ _ => ⟨rfl, rfl⟩
set_option maxRecDepth 100000 in
theorem cnt_z : cntF (fun _ => 0) 80 = 0 := by decide +kernel
theorem wf_y0 : WfY y0 := ⟨by decide, by decide, fun p _ _ => by show (0 : Int) ≤ 0 ∧ (0 : Int) ≤ 20; decide, by rw [show cntF y0.2.2 80 = 0 from cnt_z]; decide⟩
theorem wf_p0 : WfP p0 := ⟨by decide, by decide, fun j j1 j2 => by have j2 : j < 0 := j2; omega⟩
theorem wf_s0 : WfS s0 := ⟨by decide, by decide, by decide, fun _ _ => wf_y0, fun _ _ => wf_p0⟩
theorem ab_0 : AbsOk a0 := ⟨wf_s0, by decide, fun j hj => by have hj : j < 0 := hj; omega, by decide, fun j j1 j2 => by have j2 : j < 0 := j2; omega⟩
set_option maxRecDepth 100000 in
theorem st_f1 : ∀ k : Nat, k < 7 → Rf0 (stB k) 3 = some (stB k + 1) ∧ Rf0 (stB k) 4 = some (stB k + 2) := by decide +kernel
set_option maxRecDepth 100000 in
theorem st_f2 : ∀ k : Nat, k < 7 → ∀ i : Nat, i < 4 → Rf0 (stB k + 1) i = some (stB k + (3 + 2 * i)) := by decide +kernel
set_option maxRecDepth 100000 in
theorem st_f3 : ∀ k : Nat, k < 7 → ∀ i : Nat, i < 4 → Rf0 (stB k + (3 + 2 * i)) 2 = some (stB k + (4 + 2 * i)) := by decide +kernel
set_option maxRecDepth 100000 in
theorem st_f4 : ∀ k : Nat, k < 7 → ∀ i : Nat, i < 8 → Rf0 (stB k + (11 + 2 * i)) 2 = some (stB k + (12 + 2 * i)) := by decide +kernel
set_option maxRecDepth 100000 in
theorem st_f5 : ∀ i : Nat, i < 81 → Rf0 46 i = some (47 + i) := by decide +kernel
set_option maxRecDepth 100000 in
theorem ro_f0 : RefOk Rf0 := ⟨by decide +kernel, by decide +kernel, by decide +kernel, by decide +kernel, by decide +kernel, by decide +kernel, by decide +kernel, by decide +kernel, by decide +kernel, by decide +kernel, by decide +kernel, by decide +kernel, by decide +kernel, by decide +kernel, by decide +kernel, by decide +kernel, by decide +kernel, by decide +kernel, by decide +kernel, st_f5, fun k hk => ⟨(st_f1 k hk).1, (st_f1 k hk).2, fun i hi => ⟨st_f2 k hk i hi, st_f3 k hk i hi⟩, st_f4 k hk⟩⟩
set_option maxRecDepth 100000 in
set_option maxHeartbeats 4000000 in
theorem str_f0 : ∀ k : Nat, k < 7 → ∀ i : Nat, i < 8 → i < 8 ∧ Rf0 (stB k + 2) i = some (stB k + (11 + 2 * i)) := by decide +kernel
set_option maxRecDepth 100000 in
theorem sav_f0 : ∀ j : Nat, j < 6 → 1 ≤ j + 1 ∧ j + 1 < 7 ∧ Rf0 28 j = some (stB (j + 1)) := by decide +kernel
theorem inv_f0 : RInv Rf0 (fun i => i) (fun j => j + 1) := ⟨ro_f0, ⟨str_f0 0 (by decide), fun i j _ _ h => h⟩, fun k _ h2 => ⟨str_f0 k h2, fun i j _ _ h => h⟩, sav_f0, fun i j _ _ h => by have h : i + 1 = j + 1 := h; omega⟩
theorem styI_a {I : Mem} {s x : Nat} {j : Int} : ∀ i : Nat, (∀ k : Nat, k < i → x ≠ s + (3 + 2 * k)) → styI I s i x j = I x j
  | 0, _ => rfl
  | i + 1, h => by
    show u2 (styI I s i) (s + (3 + 2 * i)) 1 4 x j = I x j
    rw [u2_n (Or.inl (h i (by omega)))]
    exact styI_a i (fun k hk => h k (by omega))
/-- what is not written when the objects are made -/
theorem If0_z {x : Nat} {j : Int} (h1 : x ≠ 1) (h2 : ∀ k : Nat, k < 4 → x ≠ 1 + (3 + 2 * k)) (h3 : x < 31) : If0 x j = 0 := by
  show svI (t4I Iz) 6 x j = 0
  rw [svI_n 6 (by omega)]
  show u2 (stI Iz 1) 31 1 4 x j = 0
  rw [u2_n (by omega)]
  unfold stI sbI
  rw [styI_a 4 h2, u2_n (Or.inl h1), u2_n (Or.inl h1)]
  rfl
set_option maxRecDepth 100000 in
theorem If0_c : (If0 1 0 = 40 ∧ If0 1 1 = 8 ∧ If0 1 2 = 0) ∧ (∀ i : Nat, i < 4 → If0 (1 + (3 + 2 * i)) 0 = 0 ∧ If0 (1 + (3 + 2 * i)) 1 = 4) ∧ If0 0 2 = 0 ∧ If0 0 4 = 0 := by decide +kernel
theorem ci_0 : CI If0 Rf0 (fun i => i) (fun j => j + 1) a0 := by
  refine ⟨inv_f0, ⟨If0_c.1.1, If0_c.1.2.1, If0_c.1.2.2, fun i hi => ⟨(If0_c.2.1 i hi).1, (If0_c.2.1 i hi).2, fun p _ _ => ?_⟩, fun i hi => ⟨?_, ?_, fun p _ _ => ?_⟩⟩, If0_c.2.2.1, fun j hj => by have hj : j < 0 := hj; omega, If0_c.2.2.2, fun j j1 j2 => by have j2 : j < 0 := j2; omega⟩
  · show If0 (1 + (4 + 2 * i)) p = 0
    exact If0_z (by omega) (fun k hk => by omega) (by omega)
  · show If0 (1 + (11 + 2 * i)) 0 = 0
    exact If0_z (by omega) (fun k hk => by omega) (by omega)
  · show If0 (1 + (11 + 2 * i)) 1 = 0
    exact If0_z (by omega) (fun k hk => by omega) (by omega)
  · show If0 (1 + (12 + 2 * i)) p = 0
    exact If0_z (by omega) (fun k hk => by omega) (by omega)
