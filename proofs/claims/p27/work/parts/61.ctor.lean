/-! the making of the objects -/
def Cl (N : Nat) (I : Mem) (R : RMem) : Prop := ∀ (x : Nat) (j : Int), N ≤ x → I x j = 0 ∧ R x j = none
theorem Cl.up {N M : Nat} {I : Mem} {R : RMem} (h : Cl N I R) (hm : N ≤ M) : Cl M I R := fun x j hx => h x j (Nat.le_trans hm hx)
theorem Cl.setI {N a : Nat} {I : Mem} {R : RMem} {j z : Int} (h : Cl N I R) (ha : a < N) : Cl N (u2 I a j z) R := fun x i hx => ⟨(u2_n (Or.inl (by omega))).trans (h x i hx).1, (h x i hx).2⟩
theorem Cl.setR {N a : Nat} {I : Mem} {R : RMem} {j : Int} {z : Option Nat} (h : Cl N I R) (ha : a < N) : Cl N I (u2 R a j z) := fun x i hx => ⟨(h x i hx).1, (u2_n (Or.inl (by omega))).trans (h x i hx).2⟩
theorem newW_eq {N kd n : Nat} {I : Mem} {R : RMem} (hs : ShF N = (kd, n)) (hc : Cl N I R) : newW (N, ShF, I, R) kd n = (N + 1, ShF, I, R) := by
  have e1 : (fun q => if q = N then (kd, n) else ShF q) = ShF := funext fun q => by
    by_cases h : q = N
    · rw [if_pos h, h, hs]
    · rw [if_neg h]
  have e2 : (fun (q : Nat) (j : Int) => if q = N then 0 else I q j) = I := funext fun q => funext fun j => by
    by_cases h : q = N
    · rw [if_pos h, h, (hc N j (Nat.le_refl _)).1]
    · rw [if_neg h]
  have e3 : (fun (q : Nat) (j : Int) => if q = N then none else R q j) = R := funext fun q => funext fun j => by
    by_cases h : q = N
    · rw [if_pos h, h, (hc N j (Nat.le_refl _)).2]
    · rw [if_neg h]
  show (N + 1, (fun q => if q = N then (kd, n) else ShF q), (fun (q : Nat) (j : Int) => if q = N then 0 else I q j), (fun (q : Nat) (j : Int) => if q = N then none else R q j)) = _
  rw [e1, e2, e3]
def PN (N : Nat) (I : Mem) (R : RMem) : Option MV → Wd → Prop := fun r w => r = none ∧ w = (N, ShF, I, R)
section NW
variable {cc : ByteArray} {own : String} {nL : Nat} {rt : Option FieldType} {ini : Bool} {d mc ms : Nat} {Post : Option MV → Wd → Prop} {uc us pc : Nat} {ls : List (Option MV)} {st : List MV} {N : Nat} {I : Mem} {R : RMem}
theorem n_new {idx ci F : Nat} {C : String} (hN : NwOk own idx ci C F) (hdg : decode cc pc = .ok (.new idx, 3)) (hf : uc + 1 ≤ mc ∧ us + F ≤ ms) (hs : ShF N = (ci, 0)) (hc : Cl N I R) (k : WW cc own nL rt ini d mc ms Post (uc + 1) (us + F) (pc + 3) ls (.inr (some N) :: st) (N + 1, ShF, I, R)) : WW cc own nL rt ini d mc ms Post uc us pc ls st (N, ShF, I, R) :=
  r_new hN hdg hf (by rw [newW_eq hs hc]; exact k)
theorem n_newa {n t : Nat} {z : Int} {aty : ArrayType} (ht : t = 0 ∧ aty = .int) (hl : Cond.arrayClass (newarray.typeOf aty) ∈ lw_U) (hz : z = n) (hn : n ≤ 100000) (hdg : decode cc pc = .ok (.newarray aty, 2)) (hf : uc + 1 ≤ mc ∧ us + n ≤ ms) (hs : ShF N = (100 + t, n)) (hc : Cl N I R) (k : WW cc own nL rt ini d mc ms Post (uc + 1) (us + n) (pc + 2) ls (.inr (some N) :: st) (N + 1, ShF, I, R)) : WW cc own nL rt ini d mc ms Post uc us pc ls (.inl z :: st) (N, ShF, I, R) :=
  r_newa ht hl hz hn hdg hf (by rw [newW_eq hs hc]; exact k)
theorem n_newq {idx n t : Nat} {z : Int} {C : String} (ht : (t = 2 ∧ C = RX3) ∨ (t = 3 ∧ C = RX5) ∨ (t = 4 ∧ C = RX1)) (hl : Cond.classLink own idx C ∈ lw_U) (hz : z = n) (hn : n ≤ 100000) (hdg : decode cc pc = .ok (.anewarray idx, 3)) (hf : uc + 1 ≤ mc ∧ us + n ≤ ms) (hs : ShF N = (100 + t, n)) (hc : Cl N I R) (k : WW cc own nL rt ini d mc ms Post (uc + 1) (us + n) (pc + 3) ls (.inr (some N) :: st) (N + 1, ShF, I, R)) : WW cc own nL rt ini d mc ms Post uc us pc ls (.inl z :: st) (N, ShF, I, R) :=
  r_newq ht hl hz hn hdg hf (by rw [newW_eq hs hc]; exact k)
theorem n_callI {idx n d' mc' ms' a N' : Nat} {I' : Mem} {R' : RMem} {y : MethodName} {cy : ByteArray} {nLy : Nat} {As st0 : List MV} {w : Wd} (hL : LkI own idx y cy nLy n) (hdg : decode cc pc = .ok (.invokespecial idx, 3)) (hM : CC d' mc' ms' y cy nLy none (.inr (some a) :: As) w (PN N' I' R')) (hd : d' + 1 ≤ d) (hn : As.length = n) (hst : st0 = As.reverse ++ .inr (some a) :: st) (h8 : st.length ≤ 8) (hf : uc + mc' ≤ mc ∧ us + ms' ≤ ms) (k : WW cc own nL rt ini d mc ms Post (uc + mc') (us + ms') (pc + 3) ls st (N', ShF, I', R')) : WW cc own nL rt ini d mc ms Post uc us pc ls st0 w := by
  refine r_callI hL hdg hM hd hn hst h8 hf ?_
  rintro r w' ⟨rfl, rfl⟩
  exact k
end NW
set_option maxHeartbeats 4000000 in
set_option maxRecDepth 100000 in
theorem i_Style {a : Nat} {I : Mem} {R : RMem} (hs : ShF a = (5, 0)) (hs1 : ShF (a + 1) = (100, 81)) (hc : Cl (a + 1) I R) : CC 1 1 81 yX5_init cX5_init 1 none [.inr (some (a))] (a + 1, ShF, I, R) (PN (a + 2) (u2 I a 1 4) (u2 R a 2 (some (a + 1)))) := by
  refine CC_of (own := RX5) (ini := true) (by decide +kernel) rfl (fun _ => rfl) (Nat.le_of_ble_eq_true rfl) ?_
  show WW cX5_init RX5 1 none true 1 1 81 (PN (a + 2) (u2 I a 1 4) (u2 R a 2 (some (a + 1)))) 0 0 0 [some (.inr (some (a)))] [] (a + 1, ShF, I, R)
  refine r_aload_n dX5_init_0 rfl ?_
  refine r_obj ob_X5_3 dX5_init_1 (Nat.le_of_ble_eq_true rfl) (by decide) ?_
  refine r_aload_n dX5_init_4 rfl ?_
  refine r_iconst dX5_init_5 ?_
  refine q_putI fl_X5_9 dX5_init_6 (show Shp _ ShF (a) 5 0 from ⟨by omega, hs⟩) ?_
  refine r_aload_n dX5_init_9 rfl ?_
  refine r_bipush dX5_init_10 (by decide) ?_
  refine n_newa (t := 0) (aty := .int) (n := 81) (by decide) ac_int rfl (Nat.le_of_ble_eq_true rfl) dX5_init_12 ⟨by omega, by omega⟩ hs1 (hc.setI (by omega)) ?_
  refine q_putR fl_X5_15 dX5_init_14 (show Shp _ ShF (a) 5 0 from ⟨by omega, hs⟩) (fun _ => ⟨rfl, _, _, _, clOk_5, rfl⟩) (Or.inr ⟨_, rfl⟩) ?_
  exact r_vret dX5_init_17 rfl ⟨by omega, by omega⟩ ⟨rfl, rfl⟩
set_option maxHeartbeats 4000000 in
set_option maxRecDepth 100000 in
theorem i_Par {a : Nat} {I : Mem} {R : RMem} (hs : ShF a = (1, 0)) (hs1 : ShF (a + 1) = (100, 80)) (hc : Cl (a + 1) I R) : CC 1 1 80 yX1_init cX1_init 1 none [.inr (some (a))] (a + 1, ShF, I, R) (PN (a + 2) I (u2 R a 2 (some (a + 1)))) := by
  refine CC_of (own := RX1) (ini := true) (by decide +kernel) rfl (fun _ => rfl) (Nat.le_of_ble_eq_true rfl) ?_
  show WW cX1_init RX1 1 none true 1 1 80 (PN (a + 2) I (u2 R a 2 (some (a + 1)))) 0 0 0 [some (.inr (some (a)))] [] (a + 1, ShF, I, R)
  refine r_aload_n dX1_init_0 rfl ?_
  refine r_obj ob_X1_3 dX1_init_1 (Nat.le_of_ble_eq_true rfl) (by decide) ?_
  refine r_aload_n dX1_init_4 rfl ?_
  refine r_bipush dX1_init_5 (by decide) ?_
  refine n_newa (t := 0) (aty := .int) (n := 80) (by decide) ac_int rfl (Nat.le_of_ble_eq_true rfl) dX1_init_7 ⟨by omega, by omega⟩ hs1 hc ?_
  refine q_putR fl_X1_9 dX1_init_9 (show Shp _ ShF (a) 1 0 from ⟨by omega, hs⟩) (fun _ => ⟨rfl, _, _, _, clOk_1, rfl⟩) (Or.inr ⟨_, rfl⟩) ?_
  exact r_vret dX1_init_12 rfl ⟨by omega, by omega⟩ ⟨rfl, rfl⟩
def styI (I : Mem) (s : Nat) : Nat → Mem
  | 0 => I
  | i + 1 => u2 (styI I s i) (s + (3 + 2 * i)) 1 4
def styR (R : RMem) (s : Nat) : Nat → RMem
  | 0 => R
  | i + 1 => u2 (u2 (styR R s i) (s + (3 + 2 * i)) 2 (some (s + (3 + 2 * i) + 1))) (s + 1) i (some (s + (3 + 2 * i)))
def parR (R : RMem) (s : Nat) : Nat → RMem
  | 0 => R
  | i + 1 => u2 (u2 (parR R s i) (s + (11 + 2 * i)) 2 (some (s + (11 + 2 * i) + 1))) (s + 2) i (some (s + (11 + 2 * i)))
theorem styI_n {I : Mem} {s x : Nat} {j : Int} : ∀ i : Nat, x < s + 3 ∨ s + (3 + 2 * i) ≤ x ∨ j ≠ 1 → styI I s i x j = I x j
  | 0, _ => rfl
  | i + 1, h => by
    show u2 (styI I s i) (s + (3 + 2 * i)) 1 4 x j = I x j
    rw [u2_n (by omega)]
    exact styI_n i (by omega)
theorem styR_n {R : RMem} {s x : Nat} {j : Int} : ∀ i : Nat, x ≤ s ∨ x = s + 2 ∨ s + (3 + 2 * i) ≤ x → styR R s i x j = R x j
  | 0, _ => rfl
  | i + 1, h => by
    show u2 (u2 (styR R s i) (s + (3 + 2 * i)) 2 (some (s + (3 + 2 * i) + 1))) (s + 1) i (some (s + (3 + 2 * i))) x j = R x j
    rw [u2_n (by omega), u2_n (by omega)]
    exact styR_n i (by omega)
theorem parR_n {R : RMem} {s x : Nat} {j : Int} : ∀ i : Nat, x ≤ s + 1 ∨ (s + 3 ≤ x ∧ x < s + 11) ∨ s + (11 + 2 * i) ≤ x → parR R s i x j = R x j
  | 0, _ => rfl
  | i + 1, h => by
    show u2 (u2 (parR R s i) (s + (11 + 2 * i)) 2 (some (s + (11 + 2 * i) + 1))) (s + 2) i (some (s + (11 + 2 * i))) x j = R x j
    rw [u2_n (by omega), u2_n (by omega)]
    exact parR_n i (by omega)
theorem Cl.sty {I : Mem} {R : RMem} {s : Nat} (h : Cl (s + 3) I R) (i : Nat) : Cl (s + (3 + 2 * i)) (styI I s i) (styR R s i) := fun x j hx => ⟨(styI_n i (by omega)).trans (h x j (by omega)).1, (styR_n i (by omega)).trans (h x j (by omega)).2⟩
theorem Cl.par {I : Mem} {R : RMem} {s : Nat} (h : Cl (s + 11) I R) (i : Nat) : Cl (s + (11 + 2 * i)) I (parR R s i) := fun x j hx => ⟨(h x j (by omega)).1, (parR_n i (by omega)).trans (h x j (by omega)).2⟩
def sbI (I : Mem) (s : Nat) : Mem := u2 (u2 I s 0 40) s 1 8
def sbR (R : RMem) (s : Nat) : RMem := u2 (u2 R s 3 (some (s + 1))) s 4 (some (s + 2))
def stI (I : Mem) (s : Nat) : Mem := styI (sbI I s) s 4
def stR (R : RMem) (s : Nat) : RMem := parR (styR (sbR R s) s 4) s 8
theorem stI_n {I : Mem} {s x : Nat} {j : Int} (h : x < s ∨ s + 27 ≤ x) : stI I s x j = I x j := by
  unfold stI sbI
  rw [styI_n 4 (by omega), u2_n (by omega), u2_n (by omega)]
theorem stR_n {R : RMem} {s x : Nat} {j : Int} (h : x < s ∨ s + 27 ≤ x) : stR R s x j = R x j := by
  unfold stR sbR
  rw [parR_n 8 (by omega), styR_n 4 (by omega), u2_n (by omega), u2_n (by omega)]
theorem Cl.st {I : Mem} {R : RMem} {s : Nat} (h : Cl s I R) : Cl (s + 27) (stI I s) (stR R s) := fun x j hx => ⟨(stI_n (by omega)).trans (h x j (by omega)).1, (stR_n (by omega)).trans (h x j (by omega)).2⟩
set_option maxHeartbeats 4000000 in
set_option maxRecDepth 100000 in
theorem i_State {s k : Nat} (hsk : s = stB k) (hk : k < 7) {I : Mem} {R : RMem} (hc : Cl s I R) : CC 2 26 1012 yX3_init cX3_init 2 none [.inr (some (s))] (s + 1, ShF, I, R) (PN (s + 27) (stI I s) (stR R s)) := by
  have hS0 : ShF s = (3, 0) := by rw [hsk]; exact (sf_S0 hk).2
  have hS1 : ShF (s + 1) = (103, 4) := by rw [hsk]; exact (sf_S1 hk).2
  have hS2 : ShF (s + 2) = (104, 8) := by rw [hsk]; exact (sf_S2 hk).2
  have sY : ∀ i : Nat, i < 4 → ShF (s + (3 + 2 * i)) = (5, 0) ∧ ShF (s + (3 + 2 * i) + 1) = (100, 81) := fun i hi => by
    have h1 := (sf_Y hk hi).2
    have h2 := (sf_YA hk hi).2
    rw [← hsk] at h1 h2
    rw [show s + (4 + 2 * i) = s + (3 + 2 * i) + 1 by omega] at h2
    exact ⟨h1, h2⟩
  have sP : ∀ i : Nat, i < 8 → ShF (s + (11 + 2 * i)) = (1, 0) ∧ ShF (s + (11 + 2 * i) + 1) = (100, 80) := fun i hi => by
    have h1 := (sf_P hk hi).2
    have h2 := (sf_PA hk hi).2
    rw [← hsk] at h1 h2
    rw [show s + (12 + 2 * i) = s + (11 + 2 * i) + 1 by omega] at h2
    exact ⟨h1, h2⟩
  have hc0 : Cl (s + 3) (sbI I s) (sbR R s) := ((((hc.up (by omega)).setI (by omega)).setI (by omega)).setR (by omega)).setR (by omega)
  have hcp : Cl (s + 11) (styI (sbI I s) s 4) (styR (sbR R s) s 4) := hc0.sty 4
  have hl2 : ∀ (n i uc us : Nat), 8 < i + n → i ≤ 8 → uc ≤ 10 + 2 * i → us ≤ 348 + 83 * i → WW cX3_init RX3 2 none true 2 26 1012 (PN (s + 27) (stI I s) (stR R s)) uc us 61 [some (.inr (some s)), some (.inl ((i : Nat) : Int))] [] (s + (11 + 2 * i), ShF, (styI (sbI I s) s 4), parR (styR (sbR R s) s 4) s i) := by
    intro n
    induction n with
    | zero => intros; exfalso; omega
    | succ n ih =>
      intro i uc us g1 g2 g3 g4
      refine r_iload_n dX3_init_61 rfl ?_
      refine r_bipush dX3_init_62 (by decide) ?_
      refine r_icmpge (tgt := 86) dX3_init_64 (by decide) (by omega) (by omega) (fun h64 => ?_) (fun h64 => ?_)
      · have h8 : i = 8 := by omega
        subst h8
        exact r_vret dX3_init_86 rfl ⟨by omega, by omega⟩ ⟨rfl, rfl⟩
      · have hcl := hcp.par i
        refine r_aload_n dX3_init_67 rfl ?_
        refine q_getR fl_X3_26 dX3_init_68 (show Shp _ ShF (s) 3 0 from ⟨by omega, hS0⟩) (by rw [parR_n i (by omega), styR_n 4 (by omega)]; unfold sbR; rw [u2_s]) ?_
        refine r_iload_n dX3_init_71 rfl ?_
        refine n_new nw_X3_24 dX3_init_72 ⟨by omega, by omega⟩ (sP i (by omega)).1 hcl ?_
        refine r_dup dX3_init_75 ?_
        refine n_callI lk_X3_31 dX3_init_76 (i_Par (sP i (by omega)).1 (sP i (by omega)).2 (hcl.up (by omega))) (by decide) rfl rfl (Nat.le_of_ble_eq_true rfl) ⟨by omega, by omega⟩ ?_
        refine q_aast (t := 4) (ci := 1) (by decide) dX3_init_79 (show Shp _ ShF (s + 2) 104 8 from ⟨by omega, hS2⟩) (by omega) (show Shp _ ShF (s + (11 + 2 * i)) 1 0 from ⟨by omega, (sP i (by omega)).1⟩) ?_
        refine r_iinc dX3_init_80 rfl (by decide) ?_
        dsimp only [lset]
        refine r_goto (tgt := 61) dX3_init_83 (by decide) ?_
        rw [show s + (11 + 2 * i) + 2 = s + (11 + 2 * (i + 1)) by omega]
        exact ih (i + 1) _ _ (by omega) (by omega) (by omega) (by omega)
  have hl1 : ∀ (n i uc us : Nat), 4 < i + n → i ≤ 4 → uc ≤ 2 + 2 * i → us ≤ 12 + 84 * i → WW cX3_init RX3 2 none true 2 26 1012 (PN (s + 27) (stI I s) (stR R s)) uc us 35 [some (.inr (some s)), some (.inl ((i : Nat) : Int))] [] (s + (3 + 2 * i), ShF, styI (sbI I s) s i, styR (sbR R s) s i) := by
    intro n
    induction n with
    | zero => intros; exfalso; omega
    | succ n ih =>
      intro i uc us g1 g2 g3 g4
      refine r_iload_n dX3_init_35 rfl ?_
      refine r_iconst dX3_init_36 ?_
      refine r_icmpge (tgt := 59) dX3_init_37 (by decide) (by omega) (by omega) (fun h37 => ?_) (fun h37 => ?_)
      · have h4 : i = 4 := by omega
        subst h4
        refine r_iconst dX3_init_59 ?_
        refine r_istore_n dX3_init_60 (by decide) ?_
        dsimp only [lset]
        exact hl2 9 0 _ _ (by omega) (by omega) (by omega) (by omega)
      · have hcl := hc0.sty i
        refine r_aload_n dX3_init_40 rfl ?_
        refine q_getR fl_X3_20 dX3_init_41 (show Shp _ ShF (s) 3 0 from ⟨by omega, hS0⟩) (by rw [styR_n i (by omega)]; unfold sbR; rw [u2_n (Or.inr (by decide)), u2_s]) ?_
        refine r_iload_n dX3_init_44 rfl ?_
        refine n_new nw_X3_18 dX3_init_45 ⟨by omega, by omega⟩ (sY i (by omega)).1 hcl ?_
        refine r_dup dX3_init_48 ?_
        refine n_callI lk_X3_30 dX3_init_49 (i_Style (sY i (by omega)).1 (sY i (by omega)).2 (hcl.up (by omega))) (by decide) rfl rfl (Nat.le_of_ble_eq_true rfl) ⟨by omega, by omega⟩ ?_
        refine q_aast (t := 3) (ci := 5) (by decide) dX3_init_52 (show Shp _ ShF (s + 1) 103 4 from ⟨by omega, hS1⟩) (by omega) (show Shp _ ShF (s + (3 + 2 * i)) 5 0 from ⟨by omega, (sY i (by omega)).1⟩) ?_
        refine r_iinc dX3_init_53 rfl (by decide) ?_
        dsimp only [lset]
        refine r_goto (tgt := 35) dX3_init_56 (by decide) ?_
        rw [show s + (3 + 2 * i) + 2 = s + (3 + 2 * (i + 1)) by omega]
        exact ih (i + 1) _ _ (by omega) (by omega) (by omega) (by omega)
  refine CC_of (own := RX3) (ini := true) (by decide +kernel) rfl (fun _ => rfl) (Nat.le_of_ble_eq_true rfl) ?_
  show WW cX3_init RX3 2 none true 2 26 1012 (PN (s + 27) (stI I s) (stR R s)) 0 0 0 [some (.inr (some (s))), none] [] (s + 1, ShF, I, R)
  refine r_aload_n dX3_init_0 rfl ?_
  refine r_obj ob_X3_3 dX3_init_1 (Nat.le_of_ble_eq_true rfl) (by decide) ?_
  refine r_aload_n dX3_init_4 rfl ?_
  refine r_bipush dX3_init_5 (by decide) ?_
  refine q_putI fl_X3_9 dX3_init_7 (show Shp _ ShF (s) 3 0 from ⟨by omega, hS0⟩) ?_
  refine r_aload_n dX3_init_10 rfl ?_
  refine r_bipush dX3_init_11 (by decide) ?_
  refine q_putI fl_X3_15 dX3_init_13 (show Shp _ ShF (s) 3 0 from ⟨by omega, hS0⟩) ?_
  refine r_aload_n dX3_init_16 rfl ?_
  refine r_iconst dX3_init_17 ?_
  refine n_newq (t := 3) (n := 4) (by decide) cl_X3_18 rfl (Nat.le_of_ble_eq_true rfl) dX3_init_18 ⟨by omega, by omega⟩ hS1 (((hc.up (by omega)).setI (by omega)).setI (by omega)) ?_
  refine q_putR fl_X3_20 dX3_init_21 (show Shp _ ShF (s) 3 0 from ⟨by omega, hS0⟩) (fun _ => ⟨rfl, _, _, _, clOk_3, rfl⟩) (Or.inr ⟨_, rfl⟩) ?_
  refine r_aload_n dX3_init_24 rfl ?_
  refine r_bipush dX3_init_25 (by decide) ?_
  refine n_newq (t := 4) (n := 8) (by decide) cl_X3_24 rfl (Nat.le_of_ble_eq_true rfl) dX3_init_27 ⟨by omega, by omega⟩ hS2 ((((hc.up (by omega)).setI (by omega)).setI (by omega)).setR (by omega)) ?_
  refine q_putR fl_X3_26 dX3_init_30 (show Shp _ ShF (s) 3 0 from ⟨by omega, hS0⟩) (fun _ => ⟨rfl, _, _, _, clOk_3, rfl⟩) (Or.inr ⟨_, rfl⟩) ?_
  refine r_iconst dX3_init_33 ?_
  refine r_istore_n dX3_init_34 (by decide) ?_
  dsimp only [lset]
  exact hl1 5 0 _ _ (by omega) (by omega) (by omega) (by omega)
def rdR (R : RMem) : RMem := u2 (u2 (u2 R 31 2 (some 32)) 30 0 (some 31)) 30 1 (some 33)
def rdI (I : Mem) : Mem := u2 I 31 1 4
theorem Cl.rd {I : Mem} {R : RMem} (h : Cl 31 I R) : Cl 34 (rdI I) (rdR R) := ((((h.up (by decide)).setI (by decide)).setR (by decide)).setR (by decide)).setR (by decide)
set_option maxHeartbeats 4000000 in
set_option maxRecDepth 100000 in
theorem i_Reader {I : Mem} {R : RMem} (hc : Cl 31 I R) : CC 2 3 84 yX4_init cX4_init 1 none [.inr (some 30)] (31, ShF, I, R) (PN 34 (rdI I) (rdR R)) := by
  refine CC_of (own := RX4) (ini := true) (by decide +kernel) rfl (fun _ => rfl) (Nat.le_of_ble_eq_true rfl) ?_
  show WW cX4_init RX4 1 none true 2 3 84 (PN 34 (rdI I) (rdR R)) 0 0 0 [some (.inr (some 30))] [] (31, ShF, I, R)
  refine r_aload_n dX4_init_0 rfl ?_
  refine r_obj ob_X4_3 dX4_init_1 (Nat.le_of_ble_eq_true rfl) (by decide) ?_
  refine r_aload_n dX4_init_4 rfl ?_
  refine n_new nw_X4_9 dX4_init_5 ⟨by omega, by omega⟩ rfl hc ?_
  refine r_dup dX4_init_8 ?_
  refine n_callI lk_X4_11 dX4_init_9 (i_Style (a := 31) rfl rfl (hc.up (by decide))) (by decide) rfl rfl (Nat.le_of_ble_eq_true rfl) ⟨by omega, by omega⟩ ?_
  refine q_putR fl_X4_12 dX4_init_12 (show Shp _ ShF 30 4 0 from ⟨by omega, rfl⟩) (fun _ => ⟨rfl, _, _, _, clOk_4, rfl⟩) (Or.inl ⟨_, rfl⟩) ?_
  refine r_aload_n dX4_init_15 rfl ?_
  refine r_iconst dX4_init_16 ?_
  refine n_newa (t := 0) (aty := .int) (n := 0) (by decide) ac_int rfl (Nat.le_of_ble_eq_true rfl) dX4_init_17 ⟨by omega, by omega⟩ rfl ((((hc.up (by decide)).setI (by decide)).setR (by decide)).setR (by decide)) ?_
  refine q_putR fl_X4_18 dX4_init_19 (show Shp _ ShF 30 4 0 from ⟨by omega, rfl⟩) (fun _ => ⟨rfl, _, _, _, clOk_4, rfl⟩) (Or.inr ⟨_, rfl⟩) ?_
  exact r_vret dX4_init_22 rfl ⟨by omega, by omega⟩ ⟨rfl, rfl⟩
def woR (R : RMem) : RMem := u2 (u2 (u2 (u2 R 35 2 (some 36)) 35 3 (some 37)) 35 4 (some 38)) 35 5 (some 39)
theorem Cl.wo {I : Mem} {R : RMem} (h : Cl 36 I R) : Cl 40 I (woR R) := (((((h.up (by decide)).setR (by decide)).setR (by decide)).setR (by decide)).setR (by decide))
set_option maxHeartbeats 4000000 in
set_option maxRecDepth 100000 in
theorem i_Words {I : Mem} {R : RMem} (hc : Cl 36 I R) : CC 1 4 321 yX6_init cX6_init 1 none [.inr (some 35)] (36, ShF, I, R) (PN 40 I (woR R)) := by
  refine CC_of (own := RX6) (ini := true) (by decide +kernel) rfl (fun _ => rfl) (Nat.le_of_ble_eq_true rfl) ?_
  show WW cX6_init RX6 1 none true 1 4 321 (PN 40 I (woR R)) 0 0 0 [some (.inr (some 35))] [] (36, ShF, I, R)
  refine r_aload_n dX6_init_0 rfl ?_
  refine r_obj ob_X6_3 dX6_init_1 (Nat.le_of_ble_eq_true rfl) (by decide) ?_
  refine r_aload_n dX6_init_4 rfl ?_
  refine r_bipush dX6_init_5 (by decide) ?_
  refine n_newa (t := 0) (aty := .int) (n := 80) (by decide) ac_int rfl (Nat.le_of_ble_eq_true rfl) dX6_init_7 ⟨by omega, by omega⟩ rfl (hc.up (by decide)) ?_
  refine q_putR fl_X6_9 dX6_init_9 (show Shp _ ShF 35 6 0 from ⟨by omega, rfl⟩) (fun _ => ⟨rfl, _, _, _, clOk_6, rfl⟩) (Or.inr ⟨_, rfl⟩) ?_
  refine r_aload_n dX6_init_12 rfl ?_
  refine r_bipush dX6_init_13 (by decide) ?_
  refine n_newa (t := 0) (aty := .int) (n := 80) (by decide) ac_int rfl (Nat.le_of_ble_eq_true rfl) dX6_init_15 ⟨by omega, by omega⟩ rfl ((hc.up (by decide)).setR (by decide)) ?_
  refine q_putR fl_X6_15 dX6_init_17 (show Shp _ ShF 35 6 0 from ⟨by omega, rfl⟩) (fun _ => ⟨rfl, _, _, _, clOk_6, rfl⟩) (Or.inr ⟨_, rfl⟩) ?_
  refine r_aload_n dX6_init_20 rfl ?_
  refine r_bipush dX6_init_21 (by decide) ?_
  refine n_newa (t := 0) (aty := .int) (n := 80) (by decide) ac_int rfl (Nat.le_of_ble_eq_true rfl) dX6_init_23 ⟨by omega, by omega⟩ rfl (((hc.up (by decide)).setR (by decide)).setR (by decide)) ?_
  refine q_putR fl_X6_18 dX6_init_25 (show Shp _ ShF 35 6 0 from ⟨by omega, rfl⟩) (fun _ => ⟨rfl, _, _, _, clOk_6, rfl⟩) (Or.inr ⟨_, rfl⟩) ?_
  refine r_aload_n dX6_init_28 rfl ?_
  refine r_bipush dX6_init_29 (by decide) ?_
  refine n_newa (t := 0) (aty := .int) (n := 81) (by decide) ac_int rfl (Nat.le_of_ble_eq_true rfl) dX6_init_31 ⟨by omega, by omega⟩ rfl ((((hc.up (by decide)).setR (by decide)).setR (by decide)).setR (by decide)) ?_
  refine q_putR fl_X6_21 dX6_init_33 (show Shp _ ShF 35 6 0 from ⟨by omega, rfl⟩) (fun _ => ⟨rfl, _, _, _, clOk_6, rfl⟩) (Or.inr ⟨_, rfl⟩) ?_
  exact r_vret dX6_init_36 rfl ⟨by omega, by omega⟩ ⟨rfl, rfl⟩
def pcR (R : RMem) : RMem := u2 (u2 (u2 (u2 (u2 R 40 1 (some 41)) 40 2 (some 42)) 40 3 (some 43)) 40 4 (some 44)) 40 5 (some 45)
theorem Cl.pc {I : Mem} {R : RMem} (h : Cl 41 I R) : Cl 46 I (pcR R) := ((((((h.up (by decide)).setR (by decide)).setR (by decide)).setR (by decide)).setR (by decide)).setR (by decide))
set_option maxHeartbeats 4000000 in
set_option maxRecDepth 100000 in
theorem i_Pieces {I : Mem} {R : RMem} (hc : Cl 41 I R) : CC 1 5 400 yX2_init cX2_init 1 none [.inr (some 40)] (41, ShF, I, R) (PN 46 I (pcR R)) := by
  refine CC_of (own := RX2) (ini := true) (by decide +kernel) rfl (fun _ => rfl) (Nat.le_of_ble_eq_true rfl) ?_
  show WW cX2_init RX2 1 none true 1 5 400 (PN 46 I (pcR R)) 0 0 0 [some (.inr (some 40))] [] (41, ShF, I, R)
  refine r_aload_n dX2_init_0 rfl ?_
  refine r_obj ob_X2_3 dX2_init_1 (Nat.le_of_ble_eq_true rfl) (by decide) ?_
  refine r_aload_n dX2_init_4 rfl ?_
  refine r_bipush dX2_init_5 (by decide) ?_
  refine n_newa (t := 0) (aty := .int) (n := 80) (by decide) ac_int rfl (Nat.le_of_ble_eq_true rfl) dX2_init_7 ⟨by omega, by omega⟩ rfl (hc.up (by decide)) ?_
  refine q_putR fl_X2_11 dX2_init_9 (show Shp _ ShF 40 2 0 from ⟨by omega, rfl⟩) (fun _ => ⟨rfl, _, _, _, clOk_2, rfl⟩) (Or.inr ⟨_, rfl⟩) ?_
  refine r_aload_n dX2_init_12 rfl ?_
  refine r_bipush dX2_init_13 (by decide) ?_
  refine n_newa (t := 0) (aty := .int) (n := 80) (by decide) ac_int rfl (Nat.le_of_ble_eq_true rfl) dX2_init_15 ⟨by omega, by omega⟩ rfl ((hc.up (by decide)).setR (by decide)) ?_
  refine q_putR fl_X2_15 dX2_init_17 (show Shp _ ShF 40 2 0 from ⟨by omega, rfl⟩) (fun _ => ⟨rfl, _, _, _, clOk_2, rfl⟩) (Or.inr ⟨_, rfl⟩) ?_
  refine r_aload_n dX2_init_20 rfl ?_
  refine r_bipush dX2_init_21 (by decide) ?_
  refine n_newa (t := 0) (aty := .int) (n := 80) (by decide) ac_int rfl (Nat.le_of_ble_eq_true rfl) dX2_init_23 ⟨by omega, by omega⟩ rfl (((hc.up (by decide)).setR (by decide)).setR (by decide)) ?_
  refine q_putR fl_X2_18 dX2_init_25 (show Shp _ ShF 40 2 0 from ⟨by omega, rfl⟩) (fun _ => ⟨rfl, _, _, _, clOk_2, rfl⟩) (Or.inr ⟨_, rfl⟩) ?_
  refine r_aload_n dX2_init_28 rfl ?_
  refine r_bipush dX2_init_29 (by decide) ?_
  refine n_newa (t := 0) (aty := .int) (n := 80) (by decide) ac_int rfl (Nat.le_of_ble_eq_true rfl) dX2_init_31 ⟨by omega, by omega⟩ rfl ((((hc.up (by decide)).setR (by decide)).setR (by decide)).setR (by decide)) ?_
  refine q_putR fl_X2_21 dX2_init_33 (show Shp _ ShF 40 2 0 from ⟨by omega, rfl⟩) (fun _ => ⟨rfl, _, _, _, clOk_2, rfl⟩) (Or.inr ⟨_, rfl⟩) ?_
  refine r_aload_n dX2_init_36 rfl ?_
  refine r_bipush dX2_init_37 (by decide) ?_
  refine n_newa (t := 0) (aty := .int) (n := 80) (by decide) ac_int rfl (Nat.le_of_ble_eq_true rfl) dX2_init_39 ⟨by omega, by omega⟩ rfl (((((hc.up (by decide)).setR (by decide)).setR (by decide)).setR (by decide)).setR (by decide)) ?_
  refine q_putR fl_X2_24 dX2_init_41 (show Shp _ ShF 40 2 0 from ⟨by omega, rfl⟩) (fun _ => ⟨rfl, _, _, _, clOk_2, rfl⟩) (Or.inr ⟨_, rfl⟩) ?_
  exact r_vret dX2_init_44 rfl ⟨by omega, by omega⟩ ⟨rfl, rfl⟩
def laR (R : RMem) : RMem := u2 (mzR (u2 (pcR (u2 (woR R) 34 0 (some 35))) 34 1 (some 40))) 34 2 (some 46)
theorem cl_X0_25 : Cond.classLink RX0 25 "[[I" ∈ lw_U := mU 183 (by decide +kernel) (by decide +kernel)
theorem Cl.mz {I : Mem} {R : RMem} (h : Cl 46 I R) : Cl 128 I (mzR R) := fun x j hx => ⟨(h x j (by omega)).1, (if_neg (by omega)).trans (h x j (by omega)).2⟩
theorem Cl.la1 {I : Mem} {R : RMem} (h : Cl 35 I R) : Cl 40 I (u2 (woR R) 34 0 (some 35)) := ((Cl.wo (h.up (by decide))).setR (by decide))
theorem Cl.la2 {I : Mem} {R : RMem} (h : Cl 35 I R) : Cl 46 I (u2 (pcR (u2 (woR R) 34 0 (some 35))) 34 1 (some 40)) := ((Cl.pc (h.la1.up (by decide))).setR (by decide))
theorem Cl.la {I : Mem} {R : RMem} (h : Cl 35 I R) : Cl 128 I (laR R) := h.la2.mz.setR (by decide)
set_option maxHeartbeats 4000000 in
set_option maxRecDepth 100000 in
theorem i_Layout {I : Mem} {R : RMem} (hc : Cl 35 I R) : CC 2 93 1300 yX0_init cX0_init 1 none [.inr (some 34)] (35, ShF, I, R) (PN 128 I (laR R)) := by
  refine CC_of (own := RX0) (ini := true) (by decide +kernel) rfl (fun _ => rfl) (Nat.le_of_ble_eq_true rfl) ?_
  show WW cX0_init RX0 1 none true 2 93 1300 (PN 128 I (laR R)) 0 0 0 [some (.inr (some 34))] [] (35, ShF, I, R)
  refine r_aload_n dX0_init_0 rfl ?_
  refine r_obj ob_X0_3 dX0_init_1 (Nat.le_of_ble_eq_true rfl) (by decide) ?_
  refine r_aload_n dX0_init_4 rfl ?_
  refine n_new nw_X0_9 dX0_init_5 ⟨by omega, by omega⟩ rfl hc ?_
  refine r_dup dX0_init_8 ?_
  refine n_callI lk_X0_11 dX0_init_9 (i_Words (hc.up (by decide))) (by decide) rfl rfl (Nat.le_of_ble_eq_true rfl) ⟨by omega, by omega⟩ ?_
  refine q_putR fl_X0_12 dX0_init_12 (show Shp _ ShF 34 0 0 from ⟨by omega, rfl⟩) (fun _ => ⟨rfl, _, _, _, clOk_0, rfl⟩) (Or.inl ⟨_, rfl⟩) ?_
  refine r_aload_n dX0_init_15 rfl ?_
  refine n_new nw_X0_18 dX0_init_16 ⟨by omega, by omega⟩ rfl hc.la1 ?_
  refine r_dup dX0_init_19 ?_
  refine n_callI lk_X0_20 dX0_init_20 (i_Pieces (hc.la1.up (by decide))) (by decide) rfl rfl (Nat.le_of_ble_eq_true rfl) ⟨by omega, by omega⟩ ?_
  refine q_putR fl_X0_21 dX0_init_23 (show Shp _ ShF 34 0 0 from ⟨by omega, rfl⟩) (fun _ => ⟨rfl, _, _, _, clOk_0, rfl⟩) (Or.inl ⟨_, rfl⟩) ?_
  refine r_aload_n dX0_init_26 rfl ?_
  refine r_bipush dX0_init_27 (by decide) ?_
  refine r_bipush dX0_init_29 (by decide) ?_
  refine r_multi cl_X0_25 dX0_init_31 ⟨by omega, by omega⟩ hc.la2 ?_
  refine q_putR fl_X0_27 dX0_init_35 (show Shp _ ShF 34 0 0 from ⟨by omega, rfl⟩) (fun _ => ⟨rfl, _, _, _, clOk_0, rfl⟩) (Or.inr ⟨_, rfl⟩) ?_
  exact r_vret dX0_init_38 rfl ⟨by omega, by omega⟩ ⟨rfl, rfl⟩
def svI (I : Mem) : Nat → Mem
  | 0 => I
  | i + 1 => stI (svI I i) (128 + 27 * i)
def svR (R : RMem) : Nat → RMem
  | 0 => R
  | i + 1 => u2 (stR (svR R i) (128 + 27 * i)) 28 i (some (128 + 27 * i))
theorem svI_n {I : Mem} {x : Nat} {j : Int} : ∀ i : Nat, x < 128 ∨ 128 + 27 * i ≤ x → svI I i x j = I x j
  | 0, _ => rfl
  | i + 1, h => by
    show stI (svI I i) (128 + 27 * i) x j = I x j
    rw [stI_n (by omega)]
    exact svI_n i (by omega)
theorem svR_n {R : RMem} {x : Nat} {j : Int} : ∀ i : Nat, (x < 128 ∧ x ≠ 28) ∨ 128 + 27 * i ≤ x → svR R i x j = R x j
  | 0, _ => rfl
  | i + 1, h => by
    show u2 (stR (svR R i) (128 + 27 * i)) 28 i (some (128 + 27 * i)) x j = R x j
    rw [u2_n (by omega), stR_n (by omega)]
    exact svR_n i (by omega)
theorem Cl.sv {I : Mem} {R : RMem} (h : Cl 128 I R) (i : Nat) : Cl (128 + 27 * i) (svI I i) (svR R i) := fun x j hx => ⟨(svI_n i (by omega)).trans (h x j (by omega)).1, (svR_n i (by omega)).trans (h x j (by omega)).2⟩
def t1R (R : RMem) : RMem := u2 (stR R 1) 0 0 (some 1)
def t2R (R : RMem) : RMem := u2 (t1R R) 0 1 (some 28)
def t3R (R : RMem) : RMem := u2 (t2R R) 0 3 (some 29)
def t4R (R : RMem) : RMem := u2 (rdR (t3R R)) 0 5 (some 30)
def t5R (R : RMem) : RMem := u2 (laR (t4R R)) 0 6 (some 34)
def t4I (I : Mem) : Mem := rdI (stI I 1)
theorem stB_s (i : Nat) : 128 + 27 * i = stB (i + 1) := by
  unfold stB
  rw [if_neg (by omega)]
  omega
set_option maxHeartbeats 4000000 in
set_option maxRecDepth 100000 in
theorem i_TabLines {I : Mem} {R : RMem} (hc : Cl 1 I R) : CC 3 289 8625 yX7_init cX7_init 2 none [.inr (some 0)] (1, ShF, I, R) (PN 290 (svI (t4I I) 6) (svR (t5R R) 6)) := by
  have h1 : Cl 28 (stI I 1) (stR R 1) := Cl.st (hc.up (by decide))
  have h2 : Cl 28 (stI I 1) (t1R R) := h1.setR (by decide)
  have h3 : Cl 29 (stI I 1) (t2R R) := (h2.up (by decide)).setR (by decide)
  have h4 : Cl 30 (stI I 1) (t3R R) := (h3.up (by decide)).setR (by decide)
  have h5 : Cl 34 (t4I I) (rdR (t3R R)) := (h4.up (by decide)).rd
  have h6 : Cl 34 (t4I I) (t4R R) := h5.setR (by decide)
  have h7 : Cl 128 (t4I I) (laR (t4R R)) := (h6.up (by decide)).la
  have h8 : Cl 128 (t4I I) (t5R R) := h7.setR (by decide)
  have r28 : ∀ i : Nat, svR (t5R R) i 0 1 = some 28 := fun i => by
    rw [svR_n i (by omega)]
    rfl
  have hlo : ∀ (n i uc us : Nat), 6 < i + n → i ≤ 6 → uc ≤ 127 + 27 * i → us ≤ 2523 + 1017 * i → WW cX7_init RX7 2 none true 3 289 8625 (PN 290 (svI (t4I I) 6) (svR (t5R R) 6)) uc us 56 [some (.inr (some 0)), some (.inl ((i : Nat) : Int))] [] (128 + 27 * i, ShF, svI (t4I I) i, svR (t5R R) i) := by
    intro n
    induction n with
    | zero => intros; exfalso; omega
    | succ n ih =>
      intro i uc us g1 g2 g3 g4
      refine r_iload_n dX7_init_56 rfl ?_
      refine r_bipush dX7_init_57 (by decide) ?_
      refine r_icmpge (tgt := 81) dX7_init_59 (by decide) (by omega) (by omega) (fun h59 => ?_) (fun h59 => ?_)
      · have h9 : i = 6 := by omega
        subst h9
        exact r_vret dX7_init_81 rfl ⟨by omega, by omega⟩ ⟨rfl, rfl⟩
      · have hcl := h8.sv i
        have hsS : ShF (128 + 27 * i) = (3, 0) := by
          rw [stB_s]
          exact (sf_S0 (by omega)).2
        refine r_aload_n dX7_init_62 rfl ?_
        refine q_getR fl_X7_16 dX7_init_63 (show Shp _ ShF 0 7 0 from ⟨by omega, rfl⟩) (r28 i) ?_
        refine r_iload_n dX7_init_66 rfl ?_
        refine n_new nw_X7_9 dX7_init_67 ⟨by omega, by omega⟩ hsS hcl ?_
        refine r_dup dX7_init_70 ?_
        refine n_callI lk_X7_11 dX7_init_71 (i_State (stB_s i) (by omega) hcl) (by decide) rfl rfl (Nat.le_of_ble_eq_true rfl) ⟨by omega, by omega⟩ ?_
        refine q_aast (t := 2) (ci := 3) (by decide) dX7_init_74 (show Shp _ ShF 28 102 6 from ⟨by omega, rfl⟩) (by omega) (show Shp _ ShF (128 + 27 * i) 3 0 from ⟨by omega, hsS⟩) ?_
        refine r_iinc dX7_init_75 rfl (by decide) ?_
        dsimp only [lset]
        refine r_goto (tgt := 56) dX7_init_78 (by decide) ?_
        rw [show 128 + 27 * i + 27 = 128 + 27 * (i + 1) by omega]
        exact ih (i + 1) _ _ (by omega) (by omega) (by omega) (by omega)
  refine CC_of (own := RX7) (ini := true) (by decide +kernel) rfl (fun _ => rfl) (Nat.le_of_ble_eq_true rfl) ?_
  show WW cX7_init RX7 2 none true 3 289 8625 (PN 290 (svI (t4I I) 6) (svR (t5R R) 6)) 0 0 0 [some (.inr (some 0)), none] [] (1, ShF, I, R)
  refine r_aload_n dX7_init_0 rfl ?_
  refine r_obj ob_X7_3 dX7_init_1 (Nat.le_of_ble_eq_true rfl) (by decide) ?_
  refine r_aload_n dX7_init_4 rfl ?_
  refine n_new nw_X7_9 dX7_init_5 ⟨by omega, by omega⟩ rfl (hc.up (by decide)) ?_
  refine r_dup dX7_init_8 ?_
  refine n_callI lk_X7_11 dX7_init_9 (i_State (s := 1) (k := 0) rfl (by decide) (hc.up (by decide))) (by decide) rfl rfl (Nat.le_of_ble_eq_true rfl) ⟨by omega, by omega⟩ ?_
  refine q_putR fl_X7_12 dX7_init_12 (show Shp _ ShF 0 7 0 from ⟨by omega, rfl⟩) (fun _ => ⟨rfl, _, _, _, clOk_7, rfl⟩) (Or.inl ⟨_, rfl⟩) ?_
  refine r_aload_n dX7_init_15 rfl ?_
  refine r_bipush dX7_init_16 (by decide) ?_
  refine n_newq (t := 2) (n := 6) (by decide) cl_X7_9 rfl (Nat.le_of_ble_eq_true rfl) dX7_init_18 ⟨by omega, by omega⟩ rfl h2 ?_
  refine q_putR fl_X7_16 dX7_init_21 (show Shp _ ShF 0 7 0 from ⟨by omega, rfl⟩) (fun _ => ⟨rfl, _, _, _, clOk_7, rfl⟩) (Or.inr ⟨_, rfl⟩) ?_
  refine r_aload_n dX7_init_24 rfl ?_
  refine r_bipush dX7_init_25 (by decide) ?_
  refine n_newa (t := 0) (aty := .int) (n := 100) (by decide) ac_int rfl (Nat.le_of_ble_eq_true rfl) dX7_init_27 ⟨by omega, by omega⟩ rfl h3 ?_
  refine q_putR fl_X7_20 dX7_init_29 (show Shp _ ShF 0 7 0 from ⟨by omega, rfl⟩) (fun _ => ⟨rfl, _, _, _, clOk_7, rfl⟩) (Or.inr ⟨_, rfl⟩) ?_
  refine r_aload_n dX7_init_32 rfl ?_
  refine n_new nw_X7_24 dX7_init_33 ⟨by omega, by omega⟩ rfl h4 ?_
  refine r_dup dX7_init_36 ?_
  refine n_callI lk_X7_26 dX7_init_37 (i_Reader (h4.up (by decide))) (by decide) rfl rfl (Nat.le_of_ble_eq_true rfl) ⟨by omega, by omega⟩ ?_
  refine q_putR fl_X7_27 dX7_init_40 (show Shp _ ShF 0 7 0 from ⟨by omega, rfl⟩) (fun _ => ⟨rfl, _, _, _, clOk_7, rfl⟩) (Or.inl ⟨_, rfl⟩) ?_
  refine r_aload_n dX7_init_43 rfl ?_
  refine n_new nw_X7_31 dX7_init_44 ⟨by omega, by omega⟩ rfl h6 ?_
  refine r_dup dX7_init_47 ?_
  refine n_callI lk_X7_33 dX7_init_48 (i_Layout (h6.up (by decide))) (by decide) rfl rfl (Nat.le_of_ble_eq_true rfl) ⟨by omega, by omega⟩ ?_
  refine q_putR fl_X7_34 dX7_init_51 (show Shp _ ShF 0 7 0 from ⟨by omega, rfl⟩) (fun _ => ⟨rfl, _, _, _, clOk_7, rfl⟩) (Or.inl ⟨_, rfl⟩) ?_
  refine r_iconst dX7_init_54 ?_
  refine r_istore_n dX7_init_55 (by decide) ?_
  dsimp only [lset]
  exact hlo 7 0 _ _ (by omega) (by omega) (by omega) (by omega)
