/-! the fixed shapes of this program, the references that never change, and rows over worlds written out -/
abbrev Mem : Type := Nat → Int → Int
abbrev RMem : Type := Nat → Int → Option Nat
def stS (r : Nat) : Nat × Nat := if r = 0 then (3, 0) else if r = 1 then (103, 4) else if r = 2 then (104, 8) else if r < 11 then (if r % 2 = 1 then (5, 0) else (100, 81)) else (if r % 2 = 1 then (1, 0) else (100, 80))
def ShF (q : Nat) : Nat × Nat :=
  if q = 0 then (7, 0) else if q < 28 then stS (q - 1) else if q = 28 then (102, 6) else if q = 29 then (100, 100) else if q = 30 then (4, 0) else if q = 31 then (5, 0) else if q = 32 then (100, 81) else if q = 33 then (100, 0) else if q = 34 then (0, 0) else if q = 35 then (6, 0) else if q < 39 then (100, 80) else if q = 39 then (100, 81) else if q = 40 then (2, 0) else if q < 46 then (100, 80) else if q = 46 then (105, 81) else if q < 128 then (100, 6) else if q < 290 then stS ((q - 128) % 27) else (7, 0)
def Shp (N : Nat) (S : Nat → Nat × Nat) (a kd n : Nat) : Prop := a < N ∧ S a = (kd, n)
abbrev SF (a kd n : Nat) : Prop := Shp 290 ShF a kd n
/-- where the seven states begin -/
def stB (k : Nat) : Nat := if k = 0 then 1 else 101 + 27 * k
theorem sf_row {i : Nat} (h : i < 81) : SF (47 + i) 100 6 := by
  refine ⟨by omega, ?_⟩
  unfold ShF
  rw [if_neg (by omega), if_neg (by omega), if_neg (by omega), if_neg (by omega), if_neg (by omega), if_neg (by omega), if_neg (by omega), if_neg (by omega), if_neg (by omega), if_neg (by omega), if_neg (by omega), if_neg (by omega), if_neg (by omega), if_neg (by omega), if_neg (by omega), if_pos (by omega)]
theorem sf_st {k r : Nat} (hk : k < 7) (hr : r < 27) {x : Nat × Nat} (hx : stS r = x) : stB k + r < 290 ∧ ShF (stB k + r) = x := by
  unfold stB
  by_cases h0 : k = 0
  · rw [if_pos h0]
    refine ⟨by omega, ?_⟩
    unfold ShF
    rw [if_neg (by omega), if_pos (by omega), show 1 + r - 1 = r by omega, hx]
  · rw [if_neg h0]
    refine ⟨by omega, ?_⟩
    unfold ShF
    rw [if_neg (by omega), if_neg (by omega), if_neg (by omega), if_neg (by omega), if_neg (by omega), if_neg (by omega), if_neg (by omega), if_neg (by omega), if_neg (by omega), if_neg (by omega), if_neg (by omega), if_neg (by omega), if_neg (by omega), if_neg (by omega), if_neg (by omega), if_neg (by omega), if_pos (by omega), show (101 + 27 * k + r - 128) % 27 = r by omega, hx]
theorem sf_S0 {k : Nat} (hk : k < 7) : SF (stB k) 3 0 := sf_st (r := 0) hk (by omega) rfl
theorem sf_S1 {k : Nat} (hk : k < 7) : SF (stB k + 1) 103 4 := sf_st hk (by omega) rfl
theorem sf_S2 {k : Nat} (hk : k < 7) : SF (stB k + 2) 104 8 := sf_st hk (by omega) rfl
theorem sf_Y {k i : Nat} (hk : k < 7) (hi : i < 4) : SF (stB k + (3 + 2 * i)) 5 0 := sf_st hk (by omega) (by unfold stS; rw [if_neg (by omega), if_neg (by omega), if_neg (by omega), if_pos (by omega), if_pos (by omega)])
theorem sf_YA {k i : Nat} (hk : k < 7) (hi : i < 4) : SF (stB k + (4 + 2 * i)) 100 81 := sf_st hk (by omega) (by unfold stS; rw [if_neg (by omega), if_neg (by omega), if_neg (by omega), if_pos (by omega), if_neg (by omega)])
theorem sf_P {k i : Nat} (hk : k < 7) (hi : i < 8) : SF (stB k + (11 + 2 * i)) 1 0 := sf_st hk (by omega) (by unfold stS; rw [if_neg (by omega), if_neg (by omega), if_neg (by omega), if_neg (by omega), if_pos (by omega)])
theorem sf_PA {k i : Nat} (hk : k < 7) (hi : i < 8) : SF (stB k + (12 + 2 * i)) 100 80 := sf_st hk (by omega) (by unfold stS; rw [if_neg (by omega), if_neg (by omega), if_neg (by omega), if_neg (by omega), if_neg (by omega)])
theorem sf_0 : SF 0 7 0 := ⟨by decide, rfl⟩
theorem sf_28 : SF 28 102 6 := ⟨by decide, rfl⟩
theorem sf_29 : SF 29 100 100 := ⟨by decide, rfl⟩
theorem sf_30 : SF 30 4 0 := ⟨by decide, rfl⟩
theorem sf_31 : SF 31 5 0 := ⟨by decide, rfl⟩
theorem sf_32 : SF 32 100 81 := ⟨by decide, rfl⟩
theorem sf_33 : SF 33 100 0 := ⟨by decide, rfl⟩
theorem sf_34 : SF 34 0 0 := ⟨by decide, rfl⟩
theorem sf_35 : SF 35 6 0 := ⟨by decide, rfl⟩
theorem sf_36 : SF 36 100 80 := ⟨by decide, rfl⟩
theorem sf_37 : SF 37 100 80 := ⟨by decide, rfl⟩
theorem sf_38 : SF 38 100 80 := ⟨by decide, rfl⟩
theorem sf_39 : SF 39 100 81 := ⟨by decide, rfl⟩
theorem sf_40 : SF 40 2 0 := ⟨by decide, rfl⟩
theorem sf_41 : SF 41 100 80 := ⟨by decide, rfl⟩
theorem sf_42 : SF 42 100 80 := ⟨by decide, rfl⟩
theorem sf_43 : SF 43 100 80 := ⟨by decide, rfl⟩
theorem sf_44 : SF 44 100 80 := ⟨by decide, rfl⟩
theorem sf_45 : SF 45 100 80 := ⟨by decide, rfl⟩
theorem sf_46 : SF 46 105 81 := ⟨by decide, rfl⟩
theorem sf_1 : SF 1 3 0 := ⟨by decide, rfl⟩
theorem sf_2 : SF 2 103 4 := ⟨by decide, rfl⟩
theorem sf_3 : SF 3 104 8 := ⟨by decide, rfl⟩
/-- the references that no call changes; those of the seven states -/
def RefOk (R : RMem) : Prop := R 0 0 = some 1 ∧ R 0 1 = some 28 ∧ R 0 3 = some 29 ∧ R 0 5 = some 30 ∧ R 0 6 = some 34 ∧ R 30 0 = some 31 ∧ R 31 2 = some 32 ∧ R 34 0 = some 35 ∧ R 34 1 = some 40 ∧ R 34 2 = some 46 ∧ R 35 2 = some 36 ∧ R 35 3 = some 37 ∧ R 35 4 = some 38 ∧ R 35 5 = some 39 ∧ R 40 1 = some 41 ∧ R 40 2 = some 42 ∧ R 40 3 = some 43 ∧ R 40 4 = some 44 ∧ R 40 5 = some 45 ∧ (∀ i : Nat, i < 81 → R 46 i = some (47 + i)) ∧ (∀ k : Nat, k < 7 → R (stB k) 3 = some (stB k + 1) ∧ R (stB k) 4 = some (stB k + 2) ∧ (∀ i : Nat, i < 4 → R (stB k + 1) i = some (stB k + (3 + 2 * i)) ∧ R (stB k + (3 + 2 * i)) 2 = some (stB k + (4 + 2 * i))) ∧ ∀ i : Nat, i < 8 → R (stB k + (11 + 2 * i)) 2 = some (stB k + (12 + 2 * i)))
theorem ro_0_0 {R : RMem} (h : RefOk R) : R 0 0 = some 1 := h.1
theorem ro_0_1 {R : RMem} (h : RefOk R) : R 0 1 = some 28 := h.2.1
theorem ro_0_3 {R : RMem} (h : RefOk R) : R 0 3 = some 29 := h.2.2.1
theorem ro_0_5 {R : RMem} (h : RefOk R) : R 0 5 = some 30 := h.2.2.2.1
theorem ro_0_6 {R : RMem} (h : RefOk R) : R 0 6 = some 34 := h.2.2.2.2.1
theorem ro_30_0 {R : RMem} (h : RefOk R) : R 30 0 = some 31 := h.2.2.2.2.2.1
theorem ro_31_2 {R : RMem} (h : RefOk R) : R 31 2 = some 32 := h.2.2.2.2.2.2.1
theorem ro_34_0 {R : RMem} (h : RefOk R) : R 34 0 = some 35 := h.2.2.2.2.2.2.2.1
theorem ro_34_1 {R : RMem} (h : RefOk R) : R 34 1 = some 40 := h.2.2.2.2.2.2.2.2.1
theorem ro_34_2 {R : RMem} (h : RefOk R) : R 34 2 = some 46 := h.2.2.2.2.2.2.2.2.2.1
theorem ro_35_2 {R : RMem} (h : RefOk R) : R 35 2 = some 36 := h.2.2.2.2.2.2.2.2.2.2.1
theorem ro_35_3 {R : RMem} (h : RefOk R) : R 35 3 = some 37 := h.2.2.2.2.2.2.2.2.2.2.2.1
theorem ro_35_4 {R : RMem} (h : RefOk R) : R 35 4 = some 38 := h.2.2.2.2.2.2.2.2.2.2.2.2.1
theorem ro_35_5 {R : RMem} (h : RefOk R) : R 35 5 = some 39 := h.2.2.2.2.2.2.2.2.2.2.2.2.2.1
theorem ro_40_1 {R : RMem} (h : RefOk R) : R 40 1 = some 41 := h.2.2.2.2.2.2.2.2.2.2.2.2.2.2.1
theorem ro_40_2 {R : RMem} (h : RefOk R) : R 40 2 = some 42 := h.2.2.2.2.2.2.2.2.2.2.2.2.2.2.2.1
theorem ro_40_3 {R : RMem} (h : RefOk R) : R 40 3 = some 43 := h.2.2.2.2.2.2.2.2.2.2.2.2.2.2.2.2.1
theorem ro_40_4 {R : RMem} (h : RefOk R) : R 40 4 = some 44 := h.2.2.2.2.2.2.2.2.2.2.2.2.2.2.2.2.2.1
theorem ro_40_5 {R : RMem} (h : RefOk R) : R 40 5 = some 45 := h.2.2.2.2.2.2.2.2.2.2.2.2.2.2.2.2.2.2.1
theorem ro_46 {R : RMem} (h : RefOk R) {i : Nat} (hi : i < 81) : R 46 i = some (47 + i) := h.2.2.2.2.2.2.2.2.2.2.2.2.2.2.2.2.2.2.2.1 i hi
theorem ro_st {R : RMem} (h : RefOk R) {k : Nat} (hk : k < 7) : R (stB k) 3 = some (stB k + 1) ∧ R (stB k) 4 = some (stB k + 2) ∧ (∀ i : Nat, i < 4 → R (stB k + 1) i = some (stB k + (3 + 2 * i)) ∧ R (stB k + (3 + 2 * i)) 2 = some (stB k + (4 + 2 * i))) ∧ ∀ i : Nat, i < 8 → R (stB k + (11 + 2 * i)) 2 = some (stB k + (12 + 2 * i)) := h.2.2.2.2.2.2.2.2.2.2.2.2.2.2.2.2.2.2.2.2 k hk
theorem ro_1_3 {R : RMem} (h : RefOk R) : R 1 3 = some 2 := (ro_st h (k := 0) (by omega)).1
theorem ro_1_4 {R : RMem} (h : RefOk R) : R 1 4 = some 3 := (ro_st h (k := 0) (by omega)).2.1
/-! answers -/
def b2i (p : Prop) [Decidable p] : Int := if p then 1 else 0
theorem b2i_t {p : Prop} [Decidable p] (h : p) : (1 : Int) = b2i p := (if_pos h).symm
theorem b2i_f {p : Prop} [Decidable p] (h : ¬ p) : (0 : Int) = b2i p := (if_neg h).symm
theorem b2i_01 (p : Prop) [Decidable p] : b2i p = 0 ∨ b2i p = 1 := by
  unfold b2i
  by_cases h : p
  · rw [if_pos h]; exact Or.inr rfl
  · rw [if_neg h]; exact Or.inl rfl
def PF (v : Int) (I : Mem) (R : RMem) : Option MV → Wd → Prop := fun r w => r = some (.inl v) ∧ w = (290, ShF, I, R)
def PA (v : Nat) (I : Mem) (R : RMem) : Option MV → Wd → Prop := fun r w => r = some (.inr (some v)) ∧ w = (290, ShF, I, R)
def PY (P : Int → Prop) (I : Mem) (R : RMem) : Option MV → Wd → Prop := fun r w => ∃ z : Int, r = some (.inl z) ∧ w = (290, ShF, I, R) ∧ P z
def PW (R : RMem) (P : Mem → Prop) : Option MV → Wd → Prop := fun r w => ∃ I' : Mem, r = none ∧ w = (290, ShF, I', R) ∧ P I'
def PZ (R : RMem) (P : Int → Mem → Prop) : Option MV → Wd → Prop := fun r w => ∃ (z : Int) (I' : Mem), r = some (.inl z) ∧ w = (290, ShF, I', R) ∧ P z I'
def PWR (P : Mem → RMem → Prop) : Option MV → Wd → Prop := fun r w => ∃ (I' : Mem) (R' : RMem), r = none ∧ w = (290, ShF, I', R') ∧ P I' R'
def PZR (P : Int → Mem → RMem → Prop) : Option MV → Wd → Prop := fun r w => ∃ (z : Int) (I' : Mem) (R' : RMem), r = some (.inl z) ∧ w = (290, ShF, I', R') ∧ P z I' R'
section QW
variable {cc : ByteArray} {own : String} {nL : Nat} {rt : Option FieldType} {ini : Bool} {d mc ms : Nat} {Post : Option MV → Wd → Prop} {uc us pc : Nat} {ls : List (Option MV)} {st : List MV} {w : Wd} {N : Nat} {S : Nat → Nat × Nat} {I : Mem} {R : RMem}
theorem q_getI {idx ci j a nn : Nat} {jz : Int} {fin : Bool} (hF : Fld own idx ci j jz true fin) (hdg : decode cc pc = .ok (.getfield idx, 3)) (hs : Shp N S a ci nn) (k : WW cc own nL rt ini d mc ms Post uc us (pc + 3) ls (.inl (I a jz) :: st) (N, S, I, R)) : WW cc own nL rt ini d mc ms Post uc us pc ls (.inr (some a) :: st) (N, S, I, R) := r_getI hF hdg hs.1 hs.2 k
theorem q_getR {idx ci j a nn r : Nat} {jz : Int} {fin : Bool} (hF : Fld own idx ci j jz false fin) (hdg : decode cc pc = .ok (.getfield idx, 3)) (hs : Shp N S a ci nn) (hr : R a jz = some r) (k : WW cc own nL rt ini d mc ms Post uc us (pc + 3) ls (.inr (some r) :: st) (N, S, I, R)) : WW cc own nL rt ini d mc ms Post uc us pc ls (.inr (some a) :: st) (N, S, I, R) := r_getR hF hdg hs.1 hs.2 hr k
theorem q_putI {idx ci j a nn : Nat} {jz z : Int} (hF : Fld own idx ci j jz true false) (hdg : decode cc pc = .ok (.putfield idx, 3)) (hs : Shp N S a ci nn) (k : WW cc own nL rt ini d mc ms Post uc us (pc + 3) ls (st) (N, S, u2 I a jz z, R)) : WW cc own nL rt ini d mc ms Post uc us pc ls (.inl z :: .inr (some a) :: st) (N, S, I, R) := r_putI hF hdg hs.1 hs.2 k
theorem q_putR {idx ci j a nn r : Nat} {jz : Int} {fin : Bool} (hF : Fld own idx ci j jz false fin) (hdg : decode cc pc = .ok (.putfield idx, 3)) (hs : Shp N S a ci nn) (hini : fin = true → ini = true ∧ ∃ C T N, ClOk ci C T N ∧ C = own) (hty : (∃ n, tyC ci j = .object n) ∨ ∃ n, tyC ci j = .array n) (k : WW cc own nL rt ini d mc ms Post uc us (pc + 3) ls (st) (N, S, I, u2 R a jz (some r))) : WW cc own nL rt ini d mc ms Post uc us pc ls (.inr (some r) :: .inr (some a) :: st) (N, S, I, R) := r_putR hF hdg hs.1 hs.2 hini hty k
theorem q_iald {a n : Nat} {i : Int} (hdg : decode cc pc = .ok (.iaload, 1)) (hs : Shp N S a 100 n) (hi : 0 ≤ i ∧ i < n ∧ n ≤ 2147483647) (k : WW cc own nL rt ini d mc ms Post uc us (pc + 1) ls (.inl (I a i) :: st) (N, S, I, R)) : WW cc own nL rt ini d mc ms Post uc us pc ls (.inl i :: .inr (some a) :: st) (N, S, I, R) := r_iald hdg hs.1 hs.2 hi.2.2 ⟨hi.1, hi.2.1⟩ k
theorem q_aald {a n t r : Nat} {i : Int} (ht : 2 ≤ t ∧ t ≤ 4) (hdg : decode cc pc = .ok (.aaload, 1)) (hs : Shp N S a (100 + t) n) (hi : 0 ≤ i ∧ i < n ∧ n ≤ 2147483647) (hr : R a i = some r) (k : WW cc own nL rt ini d mc ms Post uc us (pc + 1) ls (.inr (some r) :: st) (N, S, I, R)) : WW cc own nL rt ini d mc ms Post uc us pc ls (.inl i :: .inr (some a) :: st) (N, S, I, R) := r_aald hdg hs.1 hs.2 ht hi.2.2 ⟨hi.1, hi.2.1⟩ hr k
theorem q_aaldI {a n r : Nat} {i : Int} (hdg : decode cc pc = .ok (.aaload, 1)) (hs : Shp N S a 105 n) (hi : 0 ≤ i ∧ i < n ∧ n ≤ 2147483647) (hr : R a i = some r) (k : WW cc own nL rt ini d mc ms Post uc us (pc + 1) ls (.inr (some r) :: st) (N, S, I, R)) : WW cc own nL rt ini d mc ms Post uc us pc ls (.inl i :: .inr (some a) :: st) (N, S, I, R) := r_aaldI hdg hs.1 hs.2 hi.2.2 ⟨hi.1, hi.2.1⟩ hr k
theorem q_iast {a n : Nat} {i z : Int} (hdg : decode cc pc = .ok (.iastore, 1)) (hs : Shp N S a 100 n) (hi : 0 ≤ i ∧ i < n ∧ n ≤ 2147483647) (k : WW cc own nL rt ini d mc ms Post uc us (pc + 1) ls (st) (N, S, u2 I a i z, R)) : WW cc own nL rt ini d mc ms Post uc us pc ls (.inl z :: .inl i :: .inr (some a) :: st) (N, S, I, R) := r_iast hdg hs.1 hs.2 hi.2.2 ⟨hi.1, hi.2.1⟩ k
theorem q_aast {a v n t ci nn : Nat} {i : Int} (ht : (t = 2 ∧ ci = 3) ∨ (t = 3 ∧ ci = 5) ∨ (t = 4 ∧ ci = 1)) (hdg : decode cc pc = .ok (.aastore, 1)) (hs : Shp N S a (100 + t) n) (hi : 0 ≤ i ∧ i < n ∧ n ≤ 2147483647) (hv : Shp N S v ci nn) (k : WW cc own nL rt ini d mc ms Post uc us (pc + 1) ls (st) (N, S, I, u2 R a i (some v))) : WW cc own nL rt ini d mc ms Post uc us pc ls (.inr (some v) :: .inl i :: .inr (some a) :: st) (N, S, I, R) := r_aast hdg hs.1 hs.2 ht hi.2.2 ⟨hi.1, hi.2.1⟩ hv.1 hv.2 k
theorem q_alen {a t n : Nat} (ht : t < 2) (hdg : decode cc pc = .ok (.arraylength, 1)) (hs : Shp N S a (100 + t) n) (k : WW cc own nL rt ini d mc ms Post uc us (pc + 1) ls (.inl n :: st) (N, S, I, R)) : WW cc own nL rt ini d mc ms Post uc us pc ls (.inr (some a) :: st) (N, S, I, R) := r_alen hdg hs.1 hs.2 ht k
theorem q_ifeqB {p : Prop} [Decidable p] {off : Int} {tgt : Nat} (hdg : decode cc pc = .ok (.ifCond .eq off, 3)) (ht : (pc : Int) + off = (tgt : Int)) (kt : ¬ p → WW cc own nL rt ini d mc ms Post uc us tgt ls st w) (kf : p → WW cc own nL rt ini d mc ms Post uc us (pc + 3) ls st w) : WW cc own nL rt ini d mc ms Post uc us pc ls (.inl (b2i p) :: st) w := by
  refine r_ifeq hdg ht (by rcases b2i_01 p with h | h <;> rw [h] <;> decide) (fun h => kt (fun hp => ?_)) (fun h => kf (Decidable.byContradiction fun hp => h (b2i_f hp).symm))
  rw [← b2i_t hp] at h
  cases h
theorem q_ifneB {p : Prop} [Decidable p] {off : Int} {tgt : Nat} (hdg : decode cc pc = .ok (.ifCond .ne off, 3)) (ht : (pc : Int) + off = (tgt : Int)) (kt : p → WW cc own nL rt ini d mc ms Post uc us tgt ls st w) (kf : ¬ p → WW cc own nL rt ini d mc ms Post uc us (pc + 3) ls st w) : WW cc own nL rt ini d mc ms Post uc us pc ls (.inl (b2i p) :: st) w := by
  refine r_ifne hdg ht (by rcases b2i_01 p with h | h <;> rw [h] <;> decide) (fun h => kt (Decidable.byContradiction fun hp => h (b2i_f hp).symm)) (fun h => kf (fun hp => ?_))
  rw [← b2i_t hp] at h
  cases h
theorem q_iretF {z v : Int} (hdg : decode cc pc = .ok (.ireturn, 1)) (hr : rt = some .int) (h : z = v) : WW cc own nL rt ini d 0 0 (PF v I R) 0 0 pc ls [.inl z] (290, ShF, I, R) := r_iret hdg hr ⟨Nat.le_refl _, Nat.le_refl _⟩ ⟨by rw [h], rfl⟩
theorem q_zretF {z v : Int} (hdg : decode cc pc = .ok (.ireturn, 1)) (hr : rt = some .boolean) (hz : z = 0 ∨ z = 1) (h : z = v) : WW cc own nL rt ini d 0 0 (PF v I R) 0 0 pc ls [.inl z] (290, ShF, I, R) := r_zret hdg hr hz ⟨Nat.le_refl _, Nat.le_refl _⟩ ⟨by rw [h], rfl⟩
theorem q_aretA {v : Nat} {n : String} (hdg : decode cc pc = .ok (.areturn, 1)) (hr : rt = some (.object n)) : WW cc own nL rt ini d 0 0 (PA v I R) 0 0 pc ls [.inr (some v)] (290, ShF, I, R) := r_aret hdg hr ⟨Nat.le_refl _, Nat.le_refl _⟩ ⟨rfl, rfl⟩
theorem q_vretW {P : Mem → Prop} (hdg : decode cc pc = .ok (.return_, 1)) (hr : rt = none) (h : P I) : WW cc own nL rt ini d 0 0 (PW R P) 0 0 pc ls [] (290, ShF, I, R) := r_vret hdg hr ⟨Nat.le_refl _, Nat.le_refl _⟩ ⟨I, rfl, rfl, h⟩
theorem q_vretWR {P : Mem → RMem → Prop} (hdg : decode cc pc = .ok (.return_, 1)) (hr : rt = none) (h : P I R) : WW cc own nL rt ini d 0 0 (PWR P) 0 0 pc ls [] (290, ShF, I, R) := r_vret hdg hr ⟨Nat.le_refl _, Nat.le_refl _⟩ ⟨I, R, rfl, rfl, h⟩
theorem q_iretZ {z : Int} {P : Int → Mem → Prop} (hdg : decode cc pc = .ok (.ireturn, 1)) (hr : rt = some .int) (h : P z I) : WW cc own nL rt ini d 0 0 (PZ R P) 0 0 pc ls [.inl z] (290, ShF, I, R) := r_iret hdg hr ⟨Nat.le_refl _, Nat.le_refl _⟩ ⟨z, I, rfl, rfl, h⟩
theorem q_zretZ {z : Int} {P : Int → Mem → Prop} (hdg : decode cc pc = .ok (.ireturn, 1)) (hr : rt = some .boolean) (hz : z = 0 ∨ z = 1) (h : P z I) : WW cc own nL rt ini d 0 0 (PZ R P) 0 0 pc ls [.inl z] (290, ShF, I, R) := r_zret hdg hr hz ⟨Nat.le_refl _, Nat.le_refl _⟩ ⟨z, I, rfl, rfl, h⟩
theorem q_iretY {z : Int} {P : Int → Prop} (hdg : decode cc pc = .ok (.ireturn, 1)) (hr : rt = some .int) (h : P z) : WW cc own nL rt ini d 0 0 (PY P I R) 0 0 pc ls [.inl z] (290, ShF, I, R) := r_iret hdg hr ⟨Nat.le_refl _, Nat.le_refl _⟩ ⟨z, rfl, rfl, h⟩
theorem q_zretY {z : Int} {P : Int → Prop} (hdg : decode cc pc = .ok (.ireturn, 1)) (hr : rt = some .boolean) (hz : z = 0 ∨ z = 1) (h : P z) : WW cc own nL rt ini d 0 0 (PY P I R) 0 0 pc ls [.inl z] (290, ShF, I, R) := r_zret hdg hr hz ⟨Nat.le_refl _, Nat.le_refl _⟩ ⟨z, rfl, rfl, h⟩
theorem q_iretZR {z : Int} {P : Int → Mem → RMem → Prop} (hdg : decode cc pc = .ok (.ireturn, 1)) (hr : rt = some .int) (h : P z I R) : WW cc own nL rt ini d 0 0 (PZR P) 0 0 pc ls [.inl z] (290, ShF, I, R) := r_iret hdg hr ⟨Nat.le_refl _, Nat.le_refl _⟩ ⟨z, I, R, rfl, rfl, h⟩
theorem q_callVF {idx n d_ ci a nn : Nat} {y : MethodName} {cy : ByteArray} {nLy : Nat} {rty : Option FieldType} {As st0 : List MV} {v : Int} (hL : LkV own idx ci y cy nLy rty n) (hdg : decode cc pc = .ok (.invokevirtual idx, 3)) (hM : CC d_ 0 0 y cy nLy rty (.inr (some a) :: As) (290, ShF, I, R) (PF v I R)) (hd : d_ + 1 ≤ d) (hs : SF a ci nn) (hn : As.length = n) (hst : st0 = As.reverse ++ .inr (some a) :: st) (h8 : st.length ≤ 8) (hb : uc + 0 ≤ mc ∧ us + 0 ≤ ms) (k : WW cc own nL rt ini d mc ms Post uc us (pc + 3) ls (.inl v :: st) (290, ShF, I, R)) : WW cc own nL rt ini d mc ms Post uc us pc ls st0 (290, ShF, I, R) := by
  refine r_callV hL hdg hM hd hs.1 hs.2 hn hst h8 hb ?_
  rintro r w' ⟨rfl, rfl⟩
  exact k
theorem q_callVA {idx n d_ ci a nn : Nat} {y : MethodName} {cy : ByteArray} {nLy : Nat} {rty : Option FieldType} {As st0 : List MV} {v : Nat} (hL : LkV own idx ci y cy nLy rty n) (hdg : decode cc pc = .ok (.invokevirtual idx, 3)) (hM : CC d_ 0 0 y cy nLy rty (.inr (some a) :: As) (290, ShF, I, R) (PA v I R)) (hd : d_ + 1 ≤ d) (hs : SF a ci nn) (hn : As.length = n) (hst : st0 = As.reverse ++ .inr (some a) :: st) (h8 : st.length ≤ 8) (hb : uc + 0 ≤ mc ∧ us + 0 ≤ ms) (k : WW cc own nL rt ini d mc ms Post uc us (pc + 3) ls (.inr (some v) :: st) (290, ShF, I, R)) : WW cc own nL rt ini d mc ms Post uc us pc ls st0 (290, ShF, I, R) := by
  refine r_callV hL hdg hM hd hs.1 hs.2 hn hst h8 hb ?_
  rintro r w' ⟨rfl, rfl⟩
  exact k
theorem q_callVY {idx n d_ ci a nn : Nat} {y : MethodName} {cy : ByteArray} {nLy : Nat} {rty : Option FieldType} {As st0 : List MV} {P : Int → Prop} (hL : LkV own idx ci y cy nLy rty n) (hdg : decode cc pc = .ok (.invokevirtual idx, 3)) (hM : CC d_ 0 0 y cy nLy rty (.inr (some a) :: As) (290, ShF, I, R) (PY P I R)) (hd : d_ + 1 ≤ d) (hs : SF a ci nn) (hn : As.length = n) (hst : st0 = As.reverse ++ .inr (some a) :: st) (h8 : st.length ≤ 8) (hb : uc + 0 ≤ mc ∧ us + 0 ≤ ms) (k : ∀ z : Int, P z → WW cc own nL rt ini d mc ms Post uc us (pc + 3) ls (.inl z :: st) (290, ShF, I, R)) : WW cc own nL rt ini d mc ms Post uc us pc ls st0 (290, ShF, I, R) := by
  refine r_callV hL hdg hM hd hs.1 hs.2 hn hst h8 hb ?_
  rintro r w' ⟨z, rfl, rfl, hP⟩
  exact k z hP
theorem q_callVW {idx n d_ ci a nn : Nat} {y : MethodName} {cy : ByteArray} {nLy : Nat} {rty : Option FieldType} {As st0 : List MV} {P : Mem → Prop} (hL : LkV own idx ci y cy nLy rty n) (hdg : decode cc pc = .ok (.invokevirtual idx, 3)) (hM : CC d_ 0 0 y cy nLy rty (.inr (some a) :: As) (290, ShF, I, R) (PW R P)) (hd : d_ + 1 ≤ d) (hs : SF a ci nn) (hn : As.length = n) (hst : st0 = As.reverse ++ .inr (some a) :: st) (h8 : st.length ≤ 8) (hb : uc + 0 ≤ mc ∧ us + 0 ≤ ms) (k : ∀ I' : Mem, P I' → WW cc own nL rt ini d mc ms Post uc us (pc + 3) ls st (290, ShF, I', R)) : WW cc own nL rt ini d mc ms Post uc us pc ls st0 (290, ShF, I, R) := by
  refine r_callV hL hdg hM hd hs.1 hs.2 hn hst h8 hb ?_
  rintro r w' ⟨I', rfl, rfl, hP⟩
  exact k I' hP
theorem q_callVZ {idx n d_ ci a nn : Nat} {y : MethodName} {cy : ByteArray} {nLy : Nat} {rty : Option FieldType} {As st0 : List MV} {P : Int → Mem → Prop} (hL : LkV own idx ci y cy nLy rty n) (hdg : decode cc pc = .ok (.invokevirtual idx, 3)) (hM : CC d_ 0 0 y cy nLy rty (.inr (some a) :: As) (290, ShF, I, R) (PZ R P)) (hd : d_ + 1 ≤ d) (hs : SF a ci nn) (hn : As.length = n) (hst : st0 = As.reverse ++ .inr (some a) :: st) (h8 : st.length ≤ 8) (hb : uc + 0 ≤ mc ∧ us + 0 ≤ ms) (k : ∀ (z : Int) (I' : Mem), P z I' → WW cc own nL rt ini d mc ms Post uc us (pc + 3) ls (.inl z :: st) (290, ShF, I', R)) : WW cc own nL rt ini d mc ms Post uc us pc ls st0 (290, ShF, I, R) := by
  refine r_callV hL hdg hM hd hs.1 hs.2 hn hst h8 hb ?_
  rintro r w' ⟨z, I', rfl, rfl, hP⟩
  exact k z I' hP
theorem q_callVWR {idx n d_ ci a nn : Nat} {y : MethodName} {cy : ByteArray} {nLy : Nat} {rty : Option FieldType} {As st0 : List MV} {P : Mem → RMem → Prop} (hL : LkV own idx ci y cy nLy rty n) (hdg : decode cc pc = .ok (.invokevirtual idx, 3)) (hM : CC d_ 0 0 y cy nLy rty (.inr (some a) :: As) (290, ShF, I, R) (PWR P)) (hd : d_ + 1 ≤ d) (hs : SF a ci nn) (hn : As.length = n) (hst : st0 = As.reverse ++ .inr (some a) :: st) (h8 : st.length ≤ 8) (hb : uc + 0 ≤ mc ∧ us + 0 ≤ ms) (k : ∀ (I' : Mem) (R' : RMem), P I' R' → WW cc own nL rt ini d mc ms Post uc us (pc + 3) ls st (290, ShF, I', R')) : WW cc own nL rt ini d mc ms Post uc us pc ls st0 (290, ShF, I, R) := by
  refine r_callV hL hdg hM hd hs.1 hs.2 hn hst h8 hb ?_
  rintro r w' ⟨I', R', rfl, rfl, hP⟩
  exact k I' R' hP
theorem q_callVZR {idx n d_ ci a nn : Nat} {y : MethodName} {cy : ByteArray} {nLy : Nat} {rty : Option FieldType} {As st0 : List MV} {P : Int → Mem → RMem → Prop} (hL : LkV own idx ci y cy nLy rty n) (hdg : decode cc pc = .ok (.invokevirtual idx, 3)) (hM : CC d_ 0 0 y cy nLy rty (.inr (some a) :: As) (290, ShF, I, R) (PZR P)) (hd : d_ + 1 ≤ d) (hs : SF a ci nn) (hn : As.length = n) (hst : st0 = As.reverse ++ .inr (some a) :: st) (h8 : st.length ≤ 8) (hb : uc + 0 ≤ mc ∧ us + 0 ≤ ms) (k : ∀ (z : Int) (I' : Mem) (R' : RMem), P z I' R' → WW cc own nL rt ini d mc ms Post uc us (pc + 3) ls (.inl z :: st) (290, ShF, I', R')) : WW cc own nL rt ini d mc ms Post uc us pc ls st0 (290, ShF, I, R) := by
  refine r_callV hL hdg hM hd hs.1 hs.2 hn hst h8 hb ?_
  rintro r w' ⟨z, I', R', rfl, rfl, hP⟩
  exact k z I' R' hP
theorem q_callSF {idx n d_ : Nat} {y : MethodName} {cy : ByteArray} {nLy : Nat} {rty : Option FieldType} {As st0 : List MV} {v : Int} (hL : LkS own idx y cy nLy rty n) (hdg : decode cc pc = .ok (.invokestatic idx, 3)) (hM : CC d_ 0 0 y cy nLy rty As (290, ShF, I, R) (PF v I R)) (hd : d_ + 1 ≤ d) (hn : As.length = n) (hst : st0 = As.reverse ++ st) (h8 : st.length ≤ 8) (hb : uc + 0 ≤ mc ∧ us + 0 ≤ ms) (k : WW cc own nL rt ini d mc ms Post uc us (pc + 3) ls (.inl v :: st) (290, ShF, I, R)) : WW cc own nL rt ini d mc ms Post uc us pc ls st0 (290, ShF, I, R) := by
  refine r_callS hL hdg hM hd hn hst h8 hb ?_
  rintro r w' ⟨rfl, rfl⟩
  exact k
theorem q_callSA {idx n d_ : Nat} {y : MethodName} {cy : ByteArray} {nLy : Nat} {rty : Option FieldType} {As st0 : List MV} {v : Nat} (hL : LkS own idx y cy nLy rty n) (hdg : decode cc pc = .ok (.invokestatic idx, 3)) (hM : CC d_ 0 0 y cy nLy rty As (290, ShF, I, R) (PA v I R)) (hd : d_ + 1 ≤ d) (hn : As.length = n) (hst : st0 = As.reverse ++ st) (h8 : st.length ≤ 8) (hb : uc + 0 ≤ mc ∧ us + 0 ≤ ms) (k : WW cc own nL rt ini d mc ms Post uc us (pc + 3) ls (.inr (some v) :: st) (290, ShF, I, R)) : WW cc own nL rt ini d mc ms Post uc us pc ls st0 (290, ShF, I, R) := by
  refine r_callS hL hdg hM hd hn hst h8 hb ?_
  rintro r w' ⟨rfl, rfl⟩
  exact k
theorem q_callSY {idx n d_ : Nat} {y : MethodName} {cy : ByteArray} {nLy : Nat} {rty : Option FieldType} {As st0 : List MV} {P : Int → Prop} (hL : LkS own idx y cy nLy rty n) (hdg : decode cc pc = .ok (.invokestatic idx, 3)) (hM : CC d_ 0 0 y cy nLy rty As (290, ShF, I, R) (PY P I R)) (hd : d_ + 1 ≤ d) (hn : As.length = n) (hst : st0 = As.reverse ++ st) (h8 : st.length ≤ 8) (hb : uc + 0 ≤ mc ∧ us + 0 ≤ ms) (k : ∀ z : Int, P z → WW cc own nL rt ini d mc ms Post uc us (pc + 3) ls (.inl z :: st) (290, ShF, I, R)) : WW cc own nL rt ini d mc ms Post uc us pc ls st0 (290, ShF, I, R) := by
  refine r_callS hL hdg hM hd hn hst h8 hb ?_
  rintro r w' ⟨z, rfl, rfl, hP⟩
  exact k z hP
theorem q_callSW {idx n d_ : Nat} {y : MethodName} {cy : ByteArray} {nLy : Nat} {rty : Option FieldType} {As st0 : List MV} {P : Mem → Prop} (hL : LkS own idx y cy nLy rty n) (hdg : decode cc pc = .ok (.invokestatic idx, 3)) (hM : CC d_ 0 0 y cy nLy rty As (290, ShF, I, R) (PW R P)) (hd : d_ + 1 ≤ d) (hn : As.length = n) (hst : st0 = As.reverse ++ st) (h8 : st.length ≤ 8) (hb : uc + 0 ≤ mc ∧ us + 0 ≤ ms) (k : ∀ I' : Mem, P I' → WW cc own nL rt ini d mc ms Post uc us (pc + 3) ls st (290, ShF, I', R)) : WW cc own nL rt ini d mc ms Post uc us pc ls st0 (290, ShF, I, R) := by
  refine r_callS hL hdg hM hd hn hst h8 hb ?_
  rintro r w' ⟨I', rfl, rfl, hP⟩
  exact k I' hP
theorem q_callSZ {idx n d_ : Nat} {y : MethodName} {cy : ByteArray} {nLy : Nat} {rty : Option FieldType} {As st0 : List MV} {P : Int → Mem → Prop} (hL : LkS own idx y cy nLy rty n) (hdg : decode cc pc = .ok (.invokestatic idx, 3)) (hM : CC d_ 0 0 y cy nLy rty As (290, ShF, I, R) (PZ R P)) (hd : d_ + 1 ≤ d) (hn : As.length = n) (hst : st0 = As.reverse ++ st) (h8 : st.length ≤ 8) (hb : uc + 0 ≤ mc ∧ us + 0 ≤ ms) (k : ∀ (z : Int) (I' : Mem), P z I' → WW cc own nL rt ini d mc ms Post uc us (pc + 3) ls (.inl z :: st) (290, ShF, I', R)) : WW cc own nL rt ini d mc ms Post uc us pc ls st0 (290, ShF, I, R) := by
  refine r_callS hL hdg hM hd hn hst h8 hb ?_
  rintro r w' ⟨z, I', rfl, rfl, hP⟩
  exact k z I' hP
theorem q_callSWR {idx n d_ : Nat} {y : MethodName} {cy : ByteArray} {nLy : Nat} {rty : Option FieldType} {As st0 : List MV} {P : Mem → RMem → Prop} (hL : LkS own idx y cy nLy rty n) (hdg : decode cc pc = .ok (.invokestatic idx, 3)) (hM : CC d_ 0 0 y cy nLy rty As (290, ShF, I, R) (PWR P)) (hd : d_ + 1 ≤ d) (hn : As.length = n) (hst : st0 = As.reverse ++ st) (h8 : st.length ≤ 8) (hb : uc + 0 ≤ mc ∧ us + 0 ≤ ms) (k : ∀ (I' : Mem) (R' : RMem), P I' R' → WW cc own nL rt ini d mc ms Post uc us (pc + 3) ls st (290, ShF, I', R')) : WW cc own nL rt ini d mc ms Post uc us pc ls st0 (290, ShF, I, R) := by
  refine r_callS hL hdg hM hd hn hst h8 hb ?_
  rintro r w' ⟨I', R', rfl, rfl, hP⟩
  exact k I' R' hP
theorem q_callSZR {idx n d_ : Nat} {y : MethodName} {cy : ByteArray} {nLy : Nat} {rty : Option FieldType} {As st0 : List MV} {P : Int → Mem → RMem → Prop} (hL : LkS own idx y cy nLy rty n) (hdg : decode cc pc = .ok (.invokestatic idx, 3)) (hM : CC d_ 0 0 y cy nLy rty As (290, ShF, I, R) (PZR P)) (hd : d_ + 1 ≤ d) (hn : As.length = n) (hst : st0 = As.reverse ++ st) (h8 : st.length ≤ 8) (hb : uc + 0 ≤ mc ∧ us + 0 ≤ ms) (k : ∀ (z : Int) (I' : Mem) (R' : RMem), P z I' R' → WW cc own nL rt ini d mc ms Post uc us (pc + 3) ls (.inl z :: st) (290, ShF, I', R')) : WW cc own nL rt ini d mc ms Post uc us pc ls st0 (290, ShF, I, R) := by
  refine r_callS hL hdg hM hd hn hst h8 hb ?_
  rintro r w' ⟨z, I', R', rfl, rfl, hP⟩
  exact k z I' R' hP
def MxOk (own : String) (idx : Nat) : Prop := Cond.methodLink own idx Lib.Math.max.name ∈ lw_U ∧ Cond.static Lib.Math.max.name ∈ lw_U ∧ Cond.initialized "java/lang/Math" ∈ lw_U ∧ Cond.code Lib.Math.max.name Lib.Math.max.code 2 (some .int) ∈ lw_U
def MnOk (own : String) (idx : Nat) : Prop := Cond.methodLink own idx Lib.Math.min.name ∈ lw_U ∧ Cond.static Lib.Math.min.name ∈ lw_U ∧ Cond.initialized "java/lang/Math" ∈ lw_U ∧ Cond.code Lib.Math.min.name Lib.Math.min.code 2 (some .int) ∈ lw_U
theorem q_mmax {idx : Nat} {x y : Int} (hm : MxOk own idx) (hdg : decode cc pc = .ok (.invokestatic idx, 3)) (hd : 1 ≤ d) (h8 : st.length ≤ 8) (hx : -2147483648 ≤ x ∧ x ≤ 2147483647) (hy : -2147483648 ≤ y ∧ y ≤ 2147483647) (hu : uc ≤ mc ∧ us ≤ ms) (k : WW cc own nL rt ini d mc ms Post uc us (pc + 3) ls (.inl (if x < y then y else x) :: st) w) : WW cc own nL rt ini d mc ms Post uc us pc ls (.inl y :: .inl x :: st) w := by
  intro l D dA b p e_ s m args below meth c H locs A hC hb0 hS hR hL
  have k := k l D dA b p e_ s m args below meth c H locs A hC hb0 hS hR hL
  have hts := hC.2.2.2.2.2.2.2.1
  have h9 : ((st.map (tv b)).map fun v => v.category).sum ≤ 8 := by rw [tv_sum]; exact h8
  refine va_mmax hC.1 hC.2.1 (hC.2.2.1.trans hL.1.symm) hC.2.2.2.2.2.2.1 (hts _ hm.1) (hts _ hm.2.1) (hts _ hm.2.2.1) (hts _ hm.2.2.2) (by show 1 ≤ d; exact hd) (by show _ ≤ 40 * d; omega) hu.1 hu.2 hdg ?_
  have e : (if Int32.ofInt x < Int32.ofInt y then Int32.ofInt y else Int32.ofInt x) = Int32.ofInt (if x < y then y else x) := by
    by_cases h : x < y
    · rw [if_pos h, if_pos ((i32_lt (by omega) (by omega)).mpr h)]
    · rw [if_neg h, if_neg (fun q => h ((i32_lt (by omega) (by omega)).mp q))]
  rw [e]
  exact k
theorem q_mmin {idx : Nat} {x y : Int} (hm : MnOk own idx) (hdg : decode cc pc = .ok (.invokestatic idx, 3)) (hd : 1 ≤ d) (h8 : st.length ≤ 8) (hx : -2147483648 ≤ x ∧ x ≤ 2147483647) (hy : -2147483648 ≤ y ∧ y ≤ 2147483647) (hu : uc ≤ mc ∧ us ≤ ms) (k : WW cc own nL rt ini d mc ms Post uc us (pc + 3) ls (.inl (if y < x then y else x) :: st) w) : WW cc own nL rt ini d mc ms Post uc us pc ls (.inl y :: .inl x :: st) w := by
  intro l D dA b p e_ s m args below meth c H locs A hC hb0 hS hR hL
  have k := k l D dA b p e_ s m args below meth c H locs A hC hb0 hS hR hL
  have hts := hC.2.2.2.2.2.2.2.1
  have h9 : ((st.map (tv b)).map fun v => v.category).sum ≤ 8 := by rw [tv_sum]; exact h8
  refine va_mmin hC.1 hC.2.1 (hC.2.2.1.trans hL.1.symm) hC.2.2.2.2.2.2.1 (hts _ hm.1) (hts _ hm.2.1) (hts _ hm.2.2.1) (hts _ hm.2.2.2) (by show 1 ≤ d; exact hd) (by show _ ≤ 40 * d; omega) hu.1 hu.2 hdg ?_
  have e : (if Int32.ofInt y < Int32.ofInt x then Int32.ofInt y else Int32.ofInt x) = Int32.ofInt (if y < x then y else x) := by
    by_cases h : y < x
    · rw [if_pos h, if_pos ((i32_lt (by omega) (by omega)).mpr h)]
    · rw [if_neg h, if_neg (fun q => h ((i32_lt (by omega) (by omega)).mp q))]
  rw [e]
  exact k

theorem q_ldc {idx : Nat} {v : Int32} {z : Int} (hc : Cond.constant own idx v ∈ lw_U) (hz : v = Int32.ofInt z) (hdg : decode cc pc = .ok (.ldc idx, 2)) (k : WW cc own nL rt ini d mc ms Post uc us (pc + 2) ls (.inl z :: st) w) : WW cc own nL rt ini d mc ms Post uc us pc ls st w := by
  intro l D dA b p e_ s m args below meth c H locs A hC hb0 hS hR hL
  have k := k l D dA b p e_ s m args below meth c H locs A hC hb0 hS hR hL
  subst hz
  exact lv_ldc hC.1 hC.2.1 hC.2.2.2.2.2.2.1 (hC.2.2.2.2.2.2.2.1 _ hc) hdg k
theorem q_iand255 {x : Int} (hdg : decode cc pc = .ok (.iand, 1)) (hx : -128 ≤ x ∧ x ≤ 255) (k : WW cc own nL rt ini d mc ms Post uc us (pc + 1) ls (.inl (x % 256) :: st) w) : WW cc own nL rt ini d mc ms Post uc us pc ls (.inl 255 :: .inl x :: st) w := by
  intro l D dA b p e_ s m args below meth c H locs A hC hb0 hS hR hL
  have k := k l D dA b p e_ s m args below meth c H locs A hC hb0 hS hR hL
  refine lv_iand hC.1 hC.2.1 hdg ?_
  have e : Int32.ofInt x &&& Int32.ofInt 255 = Int32.ofInt (x % 256) := by
    have h : ∀ n : Nat, n < 384 → Int32.ofInt ((n : Int) - 128) &&& Int32.ofInt 255 = Int32.ofInt (((n : Int) - 128) % 256) := by decide +kernel
    have h2 := h (x + 128).toNat (by omega)
    rw [show (((x + 128).toNat : Nat) : Int) - 128 = x by omega] at h2
    exact h2
  rw [e]
  exact k
end QW
