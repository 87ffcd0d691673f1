/-! switches -/
section SW
variable {cc : ByteArray} {own : String} {nL : Nat} {rt : Option FieldType} {ini : Bool} {d mc ms : Nat} {Post : Option MV → Wd → Prop} {uc us pc : Nat} {ls : List (Option MV)} {st : List MV} {w : Wd}
theorem r_tsOut {dflt lo hi x : Int} {offs : Array Int} {len tgt : Nat} (hdg : decode cc pc = .ok (.tableswitch dflt lo hi offs, len)) (hx : -2147483648 ≤ x ∧ x ≤ 2147483647) (h : x < lo ∨ hi < x) (ht : (pc : Int) + dflt = (tgt : Int)) (k : WW cc own nL rt ini d mc ms Post uc us tgt ls st w) : WW cc own nL rt ini d mc ms Post uc us pc ls (.inl x :: st) w := by
  intro l D dA b p e_ s m args below meth c H locs A hC hb0 hS hR hL
  exact lv_tableOut hC.1 hC.2.1 hdg (by rw [i32_ti hx]; exact h) ht (k l D dA b p e_ s m args below meth c H locs A hC hb0 hS hR hL)
theorem r_tsIn {dflt lo hi x off : Int} {offs : Array Int} {len tgt : Nat} (hdg : decode cc pc = .ok (.tableswitch dflt lo hi offs, len)) (hx : -2147483648 ≤ x ∧ x ≤ 2147483647) (h : ¬ x < lo ∧ ¬ hi < x) (ho : offs[(x - lo).toNat]? = some off) (ht : (pc : Int) + off = (tgt : Int)) (k : WW cc own nL rt ini d mc ms Post uc us tgt ls st w) : WW cc own nL rt ini d mc ms Post uc us pc ls (.inl x :: st) w := by
  intro l D dA b p e_ s m args below meth c H locs A hC hb0 hS hR hL
  exact lv_tableIn hC.1 hC.2.1 hdg (by rw [i32_ti hx]; exact h.1) (by rw [i32_ti hx]; exact h.2) (by rw [i32_ti hx]; exact ho) ht (k l D dA b p e_ s m args below meth c H locs A hC hb0 hS hR hL)
theorem r_lkp {dflt x off : Int} {ps : Array (Int × Int)} {len tgt : Nat} (hdg : decode cc pc = .ok (.lookupswitch dflt ps, len)) (hx : -2147483648 ≤ x ∧ x ≤ 2147483647) (hp : (ps.toList.zip (ps.toList.drop 1)).all (fun (a, next) => a.1 < next.1) = true) (ho : Op.lookupswitch.offset ps.toList dflt x = off) (ht : (pc : Int) + off = (tgt : Int)) (k : WW cc own nL rt ini d mc ms Post uc us tgt ls st w) : WW cc own nL rt ini d mc ms Post uc us pc ls (.inl x :: st) w := by
  intro l D dA b p e_ s m args below meth c H locs A hC hb0 hS hR hL
  exact lv_lookup hC.1 hC.2.1 hdg hp (by rw [i32_ti hx]; exact ho) ht (k l D dA b p e_ s m args below meth c H locs A hC hb0 hS hR hL)
end SW
/-! more calls on the abstract state -/
def lastG (f : Int → Int) : Nat → Int
  | 0 => 0
  | n + 1 => if f ((n : Int) + 1) ≠ 0 ∧ f ((n : Int) + 1) ≤ 16 then (n : Int) + 1 else lastG f n
def behG (f : Int → Int) (c : Int) : Nat → Int
  | 0 => -9
  | n + 1 => if c < 80 - (n : Int) ∧ f (80 - (n : Int)) ≠ 0 ∧ f (80 - (n : Int)) ≤ 16 then 80 - (n : Int) else behG f c n
def dfl (D c : Int) : Int := (c / D + 1) * D
theorem lastR_G {f : Int → Int} {z : Int} (h : LastR f z) : z = lastG f 80 := by
  have key : ∀ n : Nat, n ≤ 80 → (∀ p : Int, TabF f p → n < p → False) ∨ True → ((∀ p : Int, TabF f p → p ≤ n) → z = lastG f n) := by
    intro n
    induction n with
    | zero =>
      intro _ _ h0
      rcases h.1 with h1 | h1
      · have := h0 z h1
        have := h1.1
        omega
      · exact h1
    | succ n ih =>
      intro hn _ h0
      show z = if f ((n : Int) + 1) ≠ 0 ∧ f ((n : Int) + 1) ≤ 16 then (n : Int) + 1 else lastG f n
      by_cases hc : f ((n : Int) + 1) ≠ 0 ∧ f ((n : Int) + 1) ≤ 16
      · rw [if_pos hc]
        have h1 := h.2 ((n : Int) + 1) ⟨by omega, by omega, hc.1, hc.2⟩
        rcases h.1 with h2 | h2
        · have := h0 z h2
          omega
        · omega
      · rw [if_neg hc]
        refine ih (by omega) (Or.inr trivial) (fun p hp => ?_)
        have h1 := h0 p hp
        by_cases hp2 : p = (n : Int) + 1
        · rw [hp2] at hp
          exact absurd ⟨hp.2.2.1, hp.2.2.2⟩ hc
        · omega
  exact key 80 (by omega) (Or.inr trivial) (fun p hp => hp.2.1)
theorem behR_G {f : Int → Int} {c z : Int} (hc : 0 ≤ c) (h : BehR f c z) : z = behG f c 80 := by
  have key : ∀ n : Nat, n ≤ 80 → (∀ p : Int, TabF f p → c < p → 80 - (n : Int) < p) → z = behG f c n := by
    intro n
    induction n with
    | zero =>
      intro _ h0
      rcases h with h | h
      · have := h0 z h.1 h.2.1
        have := h.1.2.1
        omega
      · exact h.1
    | succ n ih =>
      intro hn h0
      show z = if c < 80 - (n : Int) ∧ f (80 - (n : Int)) ≠ 0 ∧ f (80 - (n : Int)) ≤ 16 then 80 - (n : Int) else behG f c n
      by_cases hq : c < 80 - (n : Int) ∧ f (80 - (n : Int)) ≠ 0 ∧ f (80 - (n : Int)) ≤ 16
      · rw [if_pos hq]
        have ht : TabF f (80 - (n : Int)) := ⟨by omega, by omega, hq.2.1, hq.2.2⟩
        rcases h with h | h
        · have h1 := h.2.2 _ ht hq.1
          have h2 := h0 z h.1 h.2.1
          omega
        · have := h.2 _ ht
          omega
      · rw [if_neg hq]
        refine ih (by omega) (fun p hp hcp => ?_)
        have h1 := h0 p hp hcp
        by_cases hp2 : p = 80 - (n : Int)
        · rw [hp2] at hp hcp
          exact absurd ⟨hcp, hp.2.2.1, hp.2.2.2⟩ hq
        · omega
  exact key 80 (by omega) (fun p hp _ => by have := hp.1; omega)
def aStyleQ (a : AS) (s w : Int) : Int :=
  if 0 ≤ s ∧ s ≤ 3 then (if w = 0 then (a.1.2.1 s.toNat).1 else if w = 1 then (a.1.2.1 s.toNat).2.1 else if w = 2 then cntF (a.1.2.1 s.toNat).2.2 80 else if w = 3 then dfl a.1.1.2.1 (lastG (a.1.2.1 s.toNat).2.2 80) else -1) else -1
def aStopQ (a : AS) (s k w : Int) : Int :=
  if (0 ≤ s ∧ s ≤ 3) ∧ 0 ≤ k ∧ (0 ≤ w ∧ w ≤ 2) then
    (if posF (a.1.2.1 s.toNat).2.2 k = -9 ∨ w = 0 then posF (a.1.2.1 s.toNat).2.2 k else if w = 1 then ((a.1.2.1 s.toNat).2.2 (posF (a.1.2.1 s.toNat).2.2 k) - 1) / 4 else ((a.1.2.1 s.toNat).2.2 (posF (a.1.2.1 s.toNat).2.2 k) - 1) % 4) else -1
def aCharQ (a : AS) (p i : Int) : Int :=
  if (0 ≤ p ∧ p ≤ a.1.1.2.2 - 1) ∧ 0 ≤ i then (if i < (a.1.2.2 p.toNat).2.1 then (a.1.2.2 p.toNat).2.2 i else -9) else -1
theorem lastG_congr {f g : Int → Int} : ∀ n : Nat, n ≤ 80 → (∀ p : Int, 1 ≤ p → p ≤ 80 → f p = g p) → lastG f n = lastG g n
  | 0, _, _ => rfl
  | n + 1, hn, h => by
    show (if f ((n : Int) + 1) ≠ 0 ∧ f ((n : Int) + 1) ≤ 16 then (n : Int) + 1 else lastG f n) = if g ((n : Int) + 1) ≠ 0 ∧ g ((n : Int) + 1) ≤ 16 then (n : Int) + 1 else lastG g n
    rw [h _ (by omega) (by omega), lastG_congr n (by omega) h]
theorem behG_congr {f g : Int → Int} {c : Int} : ∀ n : Nat, n ≤ 80 → (∀ p : Int, 1 ≤ p → p ≤ 80 → f p = g p) → behG f c n = behG g c n
  | 0, _, _ => rfl
  | n + 1, hn, h => by
    show (if c < 80 - (n : Int) ∧ f (80 - (n : Int)) ≠ 0 ∧ f (80 - (n : Int)) ≤ 16 then 80 - (n : Int) else behG f c n) = if c < 80 - (n : Int) ∧ g (80 - (n : Int)) ≠ 0 ∧ g (80 - (n : Int)) ≤ 16 then 80 - (n : Int) else behG g c n
    rw [h _ (by omega) (by omega), behG_congr n (by omega) h]
theorem lastG_bd (f : Int → Int) : ∀ n : Nat, 0 ≤ lastG f n ∧ lastG f n ≤ n
  | 0 => by simp [lastG]
  | n + 1 => by
    have h := lastG_bd f n
    show 0 ≤ (if f ((n : Int) + 1) ≠ 0 ∧ f ((n : Int) + 1) ≤ 16 then (n : Int) + 1 else lastG f n) ∧ (if f ((n : Int) + 1) ≠ 0 ∧ f ((n : Int) + 1) ≤ 16 then (n : Int) + 1 else lastG f n) ≤ ((n + 1 : Nat) : Int)
    split <;> omega
/-! a style's stops, a paragraph have changed -/
theorem CI.sty {I I1 : Mem} {R : RMem} {π sg : Nat → Nat} {a : AS} (h : CI I R π sg a) (h6 : a.2.1 ≤ 6) {i : Nat} (hi : i < 4) {g : Int → Int} (hk : ∀ (x : Nat) (j : Int), x ≠ 5 + 2 * i → I1 x j = I x j) (hg : ∀ p : Int, 1 ≤ p → p ≤ 80 → I1 (5 + 2 * i) p = g p) : CI I1 R π sg (wS a (setF a.1 i g)) := by
  refine h.st h6 (at0_mk ((hk _ _ (by omega)).trans h.2.1.1) ((hk _ _ (by omega)).trans h.2.1.2.1) ((hk _ _ (by omega)).trans h.2.1.2.2.1) (fun q hq => ?_) (fun q hq => ?_)) (fun x j h1 h2 h3 => hk x j (by omega))
  · have h9 := at0_y h.2.1 (i := q) (by omega)
    rw [Int.toNat_natCast] at h9
    show AtY _ _ _ (upY a.1.2.1 i _ q)
    unfold upY
    by_cases hqi : q = i
    · subst hqi
      rw [if_pos rfl]
      exact ⟨(hk _ _ (by omega)).trans h9.1, (hk _ _ (by omega)).trans h9.2.1, hg⟩
    · rw [if_neg hqi]
      exact h9.kept (fun j => hk _ _ (by omega)) (fun j => hk _ _ (by omega))
  · have h9 := at0_p h.2.1 (i := q) (by omega)
    rw [Int.toNat_natCast] at h9
    exact h9.kept (fun j => hk _ _ (by omega)) (fun j => hk _ _ (by omega))
theorem CI.par {I I1 : Mem} {R : RMem} {π sg : Nat → Nat} {a : AS} (h : CI I R π sg a) (h6 : a.2.1 ≤ 6) {i : Nat} (hi : i < 8) {y : YV} (hk : ∀ (x : Nat) (j : Int), x ≠ 12 + 2 * π i → x ≠ 13 + 2 * π i → I1 x j = I x j) (hy : AtP I1 (12 + 2 * π i) (13 + 2 * π i) y) : CI I1 R π sg (wS a (setP a.1 i y)) := by
  have hpi := h.1.2.1
  have hp := (hpi.1 i hi).1
  refine h.st h6 (at0_mk ((hk _ _ (by omega) (by omega)).trans h.2.1.1) ((hk _ _ (by omega) (by omega)).trans h.2.1.2.1) ((hk _ _ (by omega) (by omega)).trans h.2.1.2.2.1) (fun q hq => ?_) (fun q hq => ?_)) (fun x j h1 h2 h3 => hk x j (by omega) (by omega))
  · have h9 := at0_y h.2.1 (i := q) (by omega)
    rw [Int.toNat_natCast] at h9
    exact h9.kept (fun j => hk _ _ (by omega) (by omega)) (fun j => hk _ _ (by omega) (by omega))
  · have h9 := at0_p h.2.1 (i := q) (by omega)
    rw [Int.toNat_natCast] at h9
    show AtP _ _ _ (upY a.1.2.2 i y q)
    unfold upY
    by_cases hqi : q = i
    · subst hqi
      rw [if_pos rfl]
      exact hy
    · rw [if_neg hqi]
      have hne : π q ≠ π i := fun e => hqi (hpi.2 q i hq hi e)
      exact h9.kept (fun j => hk _ _ (by omega) (by omega)) (fun j => hk _ _ (by omega) (by omega))
set_option maxHeartbeats 4000000 in
set_option maxRecDepth 100000 in
theorem c_multipleBehind (I : Mem) (R : RMem) (c D : Int) (hc : 0 ≤ c ∧ c ≤ 100000) (hD : 1 ≤ D ∧ D ≤ 1000) : CC 2 0 0 yX7_multipleBehind cX7_multipleBehind 3 (some .int) [.inl (c), .inl (D)] (290, ShF, I, R) (PF (dfl D c) I R) := by
  refine CC_of (own := RX7) (ini := false) (by decide +kernel) rfl (fun h => absurd h (by decide)) (Nat.le_of_ble_eq_true rfl) ?_
  show WW cX7_multipleBehind RX7 3 (some .int) false 2 0 0 (PF (dfl D c) I R) 0 0 0 [some (.inl (c)), some (.inl (D)), none] [] (290, ShF, I, R)
  refine r_iconst dX7_multipleBehind_0 ?_
  refine r_iload_n dX7_multipleBehind_1 rfl ?_
  refine q_mmax mx_X7_212 dX7_multipleBehind_2 (by decide) (Nat.le_of_ble_eq_true rfl) (by omega) (by omega) (by decide) ?_
  rw [show (if (1 : Int) < D then D else 1) = D by split <;> omega]
  refine r_istore_n dX7_multipleBehind_5 (by decide) ?_
  dsimp only [lset]
  refine r_iload_n dX7_multipleBehind_6 rfl ?_
  refine r_iload_n dX7_multipleBehind_7 rfl ?_
  refine r_idiv dX7_multipleBehind_8 (by omega) (by omega) ?_
  refine r_iconst dX7_multipleBehind_9 ?_
  refine r_iadd dX7_multipleBehind_10 ?_
  refine r_iload_n dX7_multipleBehind_11 rfl ?_
  refine r_imul dX7_multipleBehind_12 ?_
  refine q_iretF dX7_multipleBehind_13 rfl ?_
  rfl
set_option maxHeartbeats 4000000 in
set_option maxRecDepth 100000 in
theorem k_setStop (I : Mem) (R : RMem) (π sg : Nat → Nat) (a : AS) (hI : CI I R π sg a) (hA : AbsOk a) (s : Int) (hs : -2147483648 ≤ s ∧ s ≤ 2147483647) (p : Int) (hp : -2147483648 ≤ p ∧ p ≤ 2147483647) (kd : Int) (hkd : -2147483648 ≤ kd ∧ kd ≤ 2147483647) (le : Int) (hle : -2147483648 ≤ le ∧ le ≤ 2147483647) : CC 4 0 0 yX7_setStop cX7_setStop 6 (some .int) [.inr (some 0), .inl (s), .inl (p), .inl (kd), .inl (le)] (290, ShF, I, R) (PC (aSetStop a s p kd le) I) := by
  have hRO := hI.1.1
  have hcols : I 1 0 = a.1.1.1 := hI.2.1.1
  have hdist : I 1 1 = a.1.1.2.1 := hI.2.1.2.1
  have hcnt : I 1 2 = a.1.1.2.2 := hI.2.1.2.2.1
  have hW := hA.1
  have hW1 := hW.1
  have hW2 := hW.2.1
  have hW3 := hW.2.2.1
  refine CC_of (own := RX7) (ini := false) (by decide +kernel) rfl (fun h => absurd h (by decide)) (Nat.le_of_ble_eq_true rfl) ?_
  show WW cX7_setStop RX7 6 (some .int) false 4 0 0 (PC (aSetStop a s p kd le) I) 0 0 0 [some (.inr (some 0)), some (.inl (s)), some (.inl (p)), some (.inl (kd)), some (.inl (le)), none] [] (290, ShF, I, R)
  refine r_aload_n dX7_setStop_0 rfl ?_
  refine r_iload_n dX7_setStop_1 rfl ?_
  refine q_callVF lk_X7_52 dX7_setStop_2 (c_isStyle I R s hs) (by decide) sf_0 rfl rfl (Nat.le_of_ble_eq_true rfl) (by decide) ?_
  refine q_ifeqB (tgt := 46) dX7_setStop_5 (by decide) (fun h5 => ?_) (fun h5 => ?_)
  · refine r_iconst dX7_setStop_46 ?_
    refine q_iretZR dX7_setStop_47 rfl ?_
    have e : aSetStop a s p kd le = (-1, a) := by
      unfold aSetStop
      rw [if_neg (by split <;> omega)]
    rw [e]
    exact ⟨rfl, ⟨π, sg, hI⟩, fun _ _ _ => rfl⟩
  · refine r_iload_n dX7_setStop_8 rfl ?_
    refine r_iconst dX7_setStop_9 ?_
    refine r_bipush dX7_setStop_10 (by decide) ?_
    refine q_callSF lk_X7_38 dX7_setStop_12 (c_isWithin I R p 1 80 hp (by decide) (by decide)) (by decide) rfl rfl (Nat.le_of_ble_eq_true rfl) (by decide) ?_
    refine q_ifeqB (tgt := 46) dX7_setStop_15 (by decide) (fun h15 => ?_) (fun h15 => ?_)
    · refine r_iconst dX7_setStop_46 ?_
      refine q_iretZR dX7_setStop_47 rfl ?_
      have e : aSetStop a s p kd le = (-1, a) := by
        unfold aSetStop
        rw [if_neg (by split <;> omega)]
      rw [e]
      exact ⟨rfl, ⟨π, sg, hI⟩, fun _ _ _ => rfl⟩
    · refine r_iload_n dX7_setStop_18 rfl ?_
      refine r_iconst dX7_setStop_19 ?_
      refine r_iconst dX7_setStop_20 ?_
      refine q_callSF lk_X7_38 dX7_setStop_21 (c_isWithin I R kd 0 4 hkd (by decide) (by decide)) (by decide) rfl rfl (Nat.le_of_ble_eq_true rfl) (by decide) ?_
      refine q_ifeqB (tgt := 46) dX7_setStop_24 (by decide) (fun h24 => ?_) (fun h24 => ?_)
      · refine r_iconst dX7_setStop_46 ?_
        refine q_iretZR dX7_setStop_47 rfl ?_
        have e : aSetStop a s p kd le = (-1, a) := by
          unfold aSetStop
          rw [if_neg (by split <;> omega)]
        rw [e]
        exact ⟨rfl, ⟨π, sg, hI⟩, fun _ _ _ => rfl⟩
      · refine r_iload dX7_setStop_27 rfl ?_
        refine r_iconst dX7_setStop_29 ?_
        refine r_iload_n dX7_setStop_30 rfl ?_
        refine r_iconst dX7_setStop_31 ?_
        refine r_icmpne (tgt := 39) dX7_setStop_32 (by decide) (by omega) (by omega) (fun h32 => ?_) (fun h32 => ?_)
        · refine r_iconst dX7_setStop_39 ?_
          refine q_callSF lk_X7_38 dX7_setStop_40 (c_isWithin I R le 0 _ hle (by decide) (by decide)) (by decide) rfl rfl (Nat.le_of_ble_eq_true rfl) (by decide) ?_
          refine q_ifneB (tgt := 48) dX7_setStop_43 (by decide) (fun h43 => ?_) (fun h43 => ?_)
          · refine r_aload_n dX7_setStop_48 rfl ?_
            refine q_getR fl_X7_12 dX7_setStop_49 sf_0 (ro_0_0 hRO) ?_
            refine q_getR fl_X7_56 dX7_setStop_52 sf_1 (ro_1_3 hRO) ?_
            refine r_iload_n dX7_setStop_55 rfl ?_
            refine q_aald (t := 3) (by decide) dX7_setStop_56 sf_2 (by omega) (ry0 hRO (i := s) (by omega)).1 ?_
            have hy := at0_y hI.2.1 (i := s) (by omega)
            have hwy := hW.2.2.2.1 s.toNat (by omega)
            have hsv0 : SV (I (5 + 2 * s.toNat)) := hwy.2.2.1.congr hy.2.2
            have hcn : cntF (I (5 + 2 * s.toNat)) 80 = cntF (a.1.2.1 s.toNat).2.2 80 := cntF_congr hy.2.2
            refine r_astore dX7_setStop_57 (by decide) ?_
            dsimp only [lset]
            refine r_aload dX7_setStop_59 rfl ?_
            refine r_iload_n dX7_setStop_61 rfl ?_
            refine q_callVF lk_X7_68 dX7_setStop_62 (c_hasStop I R (ry0 hRO (i := s) (by omega)).2 hsv0 p (by omega)) (by decide) (ry0 hRO (i := s) (by omega)).2.1 rfl rfl (Nat.le_of_ble_eq_true rfl) (by decide) ?_
            refine q_ifneB (tgt := 83) dX7_setStop_65 (by decide) (fun h65 => ?_) (fun h65 => ?_)
            · refine r_aload_n dX7_setStop_83 rfl ?_
              refine q_callVWR lk_X7_42 dX7_setStop_84 (c_saveState I R π sg a hI hA) (by decide) sf_0 rfl rfl (Nat.le_of_ble_eq_true rfl) (by decide) (fun I1 R1 hsv => ?_)
              obtain ⟨⟨sg1, hI1⟩, hk1, hr1⟩ := hsv
              have hRO1 := hI1.1.1
              have hI1' : AtS I1 0 π a.1 := hI1.2.1
              have h61 := psh_6 a hA.2.1
              refine r_aload dX7_setStop_87 rfl ?_
              refine r_iload_n dX7_setStop_89 rfl ?_
              refine r_iload_n dX7_setStop_90 rfl ?_
              refine r_iload dX7_setStop_91 rfl ?_
              refine q_callVW lk_X7_75 dX7_setStop_93 (c_putStop I1 R1 (ry0 hRO1 (i := s) (by omega)).2 p kd le (by omega) (by omega) (by omega)) (by decide) (ry0 hRO (i := s) (by omega)).2.1 rfl rfl (Nat.le_of_ble_eq_true rfl) (by decide) (fun I2 hI2 => ?_)
              subst hI2
              have hwy1 := at0_y hI1' (i := s) (by omega)
              have hg2 : ∀ q : Int, 1 ≤ q → q ≤ 80 → u2 I1 (5 + 2 * s.toNat) p (1 + kd * 4 + le) (5 + 2 * s.toNat) q = upF (a.1.2.1 s.toNat).2.2 p (1 + kd * 4 + le) q := fun q h1 h2 => by
                rw [u2_at]
                unfold upF
                by_cases hq : q = p
                · rw [if_pos ⟨rfl, hq⟩, if_pos hq]
                · rw [if_neg (fun z => hq z.2), if_neg hq]
                  exact hwy1.2.2 q h1 h2
              have hsv1 : SV (u2 I1 (5 + 2 * s.toNat) p (1 + kd * 4 + le) (5 + 2 * s.toNat)) := SV.congr hg2 (fun q h1 h2 => by
                unfold upF
                by_cases hq : q = p
                · rw [if_pos hq]; omega
                · rw [if_neg hq]; exact hwy.2.2.1 q h1 h2)
              refine r_aload dX7_setStop_96 rfl ?_
              refine r_iload_n dX7_setStop_98 rfl ?_
              refine q_callVF lk_X7_71 dX7_setStop_99 (c_stopsBefore _ R1 (ry0 hRO1 (i := s) (by omega)).2 hsv1 p (by omega)) (by decide) (ry0 hRO (i := s) (by omega)).2.1 rfl rfl (Nat.le_of_ble_eq_true rfl) (by decide) ?_
              refine q_iretZR dX7_setStop_102 rfl ?_
              have hpp := hy.2.2 p (by omega) (by omega)
              have e : aSetStop a s p kd le = (cntF (upF (a.1.2.1 s.toNat).2.2 p (1 + kd * 4 + le)) (p - 1).toNat, wS (psh a) (setF a.1 s.toNat (upF (a.1.2.1 s.toNat).2.2 p (1 + kd * 4 + le)))) := by
                unfold aSetStop
                rw [if_pos (by split <;> omega), if_neg (by omega)]
              rw [e]
              refine ⟨?_, ⟨π, sg1, hI1.sty h61 (i := s.toNat) (by omega) (fun x j h => u2_n (Or.inl h)) hg2⟩, fun x j h => by rw [u2_n (Or.inl (by omega))]; exact hk1 x j (Or.inl h)⟩
              rw [show (if p - 1 < 80 then p - 1 else 80) = p - 1 by split <;> omega]
              exact cntF_congr (fun q h1 h2 => hg2 q h1 (by omega))
            · refine r_aload dX7_setStop_68 rfl ?_
              refine r_bipush dX7_setStop_70 (by decide) ?_
              refine q_callVF lk_X7_71 dX7_setStop_72 (c_stopsBefore I R (ry0 hRO (i := s) (by omega)).2 hsv0 81 (by decide)) (by decide) (ry0 hRO (i := s) (by omega)).2.1 rfl rfl (Nat.le_of_ble_eq_true rfl) (by decide) ?_
              rw [show (if (81 : Int) - 1 < 80 then (81 : Int) - 1 else 80).toNat = 80 by decide, hcn]
              have hcb := cntF_bd (a.1.2.1 s.toNat).2.2 80
              refine r_bipush dX7_setStop_75 (by decide) ?_
              refine r_icmplt (tgt := 83) dX7_setStop_77 (by decide) (by omega) (by omega) (fun h77 => ?_) (fun h77 => ?_)
              · refine r_aload_n dX7_setStop_83 rfl ?_
                refine q_callVWR lk_X7_42 dX7_setStop_84 (c_saveState I R π sg a hI hA) (by decide) sf_0 rfl rfl (Nat.le_of_ble_eq_true rfl) (by decide) (fun I1 R1 hsv => ?_)
                obtain ⟨⟨sg1, hI1⟩, hk1, hr1⟩ := hsv
                have hRO1 := hI1.1.1
                have hI1' : AtS I1 0 π a.1 := hI1.2.1
                have h61 := psh_6 a hA.2.1
                refine r_aload dX7_setStop_87 rfl ?_
                refine r_iload_n dX7_setStop_89 rfl ?_
                refine r_iload_n dX7_setStop_90 rfl ?_
                refine r_iload dX7_setStop_91 rfl ?_
                refine q_callVW lk_X7_75 dX7_setStop_93 (c_putStop I1 R1 (ry0 hRO1 (i := s) (by omega)).2 p kd le (by omega) (by omega) (by omega)) (by decide) (ry0 hRO (i := s) (by omega)).2.1 rfl rfl (Nat.le_of_ble_eq_true rfl) (by decide) (fun I2 hI2 => ?_)
                subst hI2
                have hwy1 := at0_y hI1' (i := s) (by omega)
                have hg2 : ∀ q : Int, 1 ≤ q → q ≤ 80 → u2 I1 (5 + 2 * s.toNat) p (1 + kd * 4 + le) (5 + 2 * s.toNat) q = upF (a.1.2.1 s.toNat).2.2 p (1 + kd * 4 + le) q := fun q h1 h2 => by
                  rw [u2_at]
                  unfold upF
                  by_cases hq : q = p
                  · rw [if_pos ⟨rfl, hq⟩, if_pos hq]
                  · rw [if_neg (fun z => hq z.2), if_neg hq]
                    exact hwy1.2.2 q h1 h2
                have hsv1 : SV (u2 I1 (5 + 2 * s.toNat) p (1 + kd * 4 + le) (5 + 2 * s.toNat)) := SV.congr hg2 (fun q h1 h2 => by
                  unfold upF
                  by_cases hq : q = p
                  · rw [if_pos hq]; omega
                  · rw [if_neg hq]; exact hwy.2.2.1 q h1 h2)
                refine r_aload dX7_setStop_96 rfl ?_
                refine r_iload_n dX7_setStop_98 rfl ?_
                refine q_callVF lk_X7_71 dX7_setStop_99 (c_stopsBefore _ R1 (ry0 hRO1 (i := s) (by omega)).2 hsv1 p (by omega)) (by decide) (ry0 hRO (i := s) (by omega)).2.1 rfl rfl (Nat.le_of_ble_eq_true rfl) (by decide) ?_
                refine q_iretZR dX7_setStop_102 rfl ?_
                have hpp := hy.2.2 p (by omega) (by omega)
                have e : aSetStop a s p kd le = (cntF (upF (a.1.2.1 s.toNat).2.2 p (1 + kd * 4 + le)) (p - 1).toNat, wS (psh a) (setF a.1 s.toNat (upF (a.1.2.1 s.toNat).2.2 p (1 + kd * 4 + le)))) := by
                  unfold aSetStop
                  rw [if_pos (by split <;> omega), if_neg (by omega)]
                rw [e]
                refine ⟨?_, ⟨π, sg1, hI1.sty h61 (i := s.toNat) (by omega) (fun x j h => u2_n (Or.inl h)) hg2⟩, fun x j h => by rw [u2_n (Or.inl (by omega))]; exact hk1 x j (Or.inl h)⟩
                rw [show (if p - 1 < 80 then p - 1 else 80) = p - 1 by split <;> omega]
                exact cntF_congr (fun q h1 h2 => hg2 q h1 (by omega))
              · refine r_bipush dX7_setStop_80 (by decide) ?_
                refine q_iretZR dX7_setStop_82 rfl ?_
                have hpp := hy.2.2 p (by omega) (by omega)
                have e : aSetStop a s p kd le = (-3, a) := by
                  unfold aSetStop
                  rw [if_pos (by split <;> omega), if_pos (by omega)]
                rw [e]
                exact ⟨rfl, ⟨π, sg, hI⟩, fun _ _ _ => rfl⟩
          · refine r_iconst dX7_setStop_46 ?_
            refine q_iretZR dX7_setStop_47 rfl ?_
            have e : aSetStop a s p kd le = (-1, a) := by
              unfold aSetStop
              rw [if_neg (by split <;> omega)]
            rw [e]
            exact ⟨rfl, ⟨π, sg, hI⟩, fun _ _ _ => rfl⟩
        · refine r_iconst dX7_setStop_35 ?_
          refine r_goto (tgt := 40) dX7_setStop_36 (by decide) ?_
          refine q_callSF lk_X7_38 dX7_setStop_40 (c_isWithin I R le 0 _ hle (by decide) (by decide)) (by decide) rfl rfl (Nat.le_of_ble_eq_true rfl) (by decide) ?_
          refine q_ifneB (tgt := 48) dX7_setStop_43 (by decide) (fun h43 => ?_) (fun h43 => ?_)
          · refine r_aload_n dX7_setStop_48 rfl ?_
            refine q_getR fl_X7_12 dX7_setStop_49 sf_0 (ro_0_0 hRO) ?_
            refine q_getR fl_X7_56 dX7_setStop_52 sf_1 (ro_1_3 hRO) ?_
            refine r_iload_n dX7_setStop_55 rfl ?_
            refine q_aald (t := 3) (by decide) dX7_setStop_56 sf_2 (by omega) (ry0 hRO (i := s) (by omega)).1 ?_
            have hy := at0_y hI.2.1 (i := s) (by omega)
            have hwy := hW.2.2.2.1 s.toNat (by omega)
            have hsv0 : SV (I (5 + 2 * s.toNat)) := hwy.2.2.1.congr hy.2.2
            have hcn : cntF (I (5 + 2 * s.toNat)) 80 = cntF (a.1.2.1 s.toNat).2.2 80 := cntF_congr hy.2.2
            refine r_astore dX7_setStop_57 (by decide) ?_
            dsimp only [lset]
            refine r_aload dX7_setStop_59 rfl ?_
            refine r_iload_n dX7_setStop_61 rfl ?_
            refine q_callVF lk_X7_68 dX7_setStop_62 (c_hasStop I R (ry0 hRO (i := s) (by omega)).2 hsv0 p (by omega)) (by decide) (ry0 hRO (i := s) (by omega)).2.1 rfl rfl (Nat.le_of_ble_eq_true rfl) (by decide) ?_
            refine q_ifneB (tgt := 83) dX7_setStop_65 (by decide) (fun h65 => ?_) (fun h65 => ?_)
            · refine r_aload_n dX7_setStop_83 rfl ?_
              refine q_callVWR lk_X7_42 dX7_setStop_84 (c_saveState I R π sg a hI hA) (by decide) sf_0 rfl rfl (Nat.le_of_ble_eq_true rfl) (by decide) (fun I1 R1 hsv => ?_)
              obtain ⟨⟨sg1, hI1⟩, hk1, hr1⟩ := hsv
              have hRO1 := hI1.1.1
              have hI1' : AtS I1 0 π a.1 := hI1.2.1
              have h61 := psh_6 a hA.2.1
              refine r_aload dX7_setStop_87 rfl ?_
              refine r_iload_n dX7_setStop_89 rfl ?_
              refine r_iload_n dX7_setStop_90 rfl ?_
              refine r_iload dX7_setStop_91 rfl ?_
              refine q_callVW lk_X7_75 dX7_setStop_93 (c_putStop I1 R1 (ry0 hRO1 (i := s) (by omega)).2 p kd le (by omega) (by omega) (by omega)) (by decide) (ry0 hRO (i := s) (by omega)).2.1 rfl rfl (Nat.le_of_ble_eq_true rfl) (by decide) (fun I2 hI2 => ?_)
              subst hI2
              have hwy1 := at0_y hI1' (i := s) (by omega)
              have hg2 : ∀ q : Int, 1 ≤ q → q ≤ 80 → u2 I1 (5 + 2 * s.toNat) p (1 + kd * 4 + le) (5 + 2 * s.toNat) q = upF (a.1.2.1 s.toNat).2.2 p (1 + kd * 4 + le) q := fun q h1 h2 => by
                rw [u2_at]
                unfold upF
                by_cases hq : q = p
                · rw [if_pos ⟨rfl, hq⟩, if_pos hq]
                · rw [if_neg (fun z => hq z.2), if_neg hq]
                  exact hwy1.2.2 q h1 h2
              have hsv1 : SV (u2 I1 (5 + 2 * s.toNat) p (1 + kd * 4 + le) (5 + 2 * s.toNat)) := SV.congr hg2 (fun q h1 h2 => by
                unfold upF
                by_cases hq : q = p
                · rw [if_pos hq]; omega
                · rw [if_neg hq]; exact hwy.2.2.1 q h1 h2)
              refine r_aload dX7_setStop_96 rfl ?_
              refine r_iload_n dX7_setStop_98 rfl ?_
              refine q_callVF lk_X7_71 dX7_setStop_99 (c_stopsBefore _ R1 (ry0 hRO1 (i := s) (by omega)).2 hsv1 p (by omega)) (by decide) (ry0 hRO (i := s) (by omega)).2.1 rfl rfl (Nat.le_of_ble_eq_true rfl) (by decide) ?_
              refine q_iretZR dX7_setStop_102 rfl ?_
              have hpp := hy.2.2 p (by omega) (by omega)
              have e : aSetStop a s p kd le = (cntF (upF (a.1.2.1 s.toNat).2.2 p (1 + kd * 4 + le)) (p - 1).toNat, wS (psh a) (setF a.1 s.toNat (upF (a.1.2.1 s.toNat).2.2 p (1 + kd * 4 + le)))) := by
                unfold aSetStop
                rw [if_pos (by split <;> omega), if_neg (by omega)]
              rw [e]
              refine ⟨?_, ⟨π, sg1, hI1.sty h61 (i := s.toNat) (by omega) (fun x j h => u2_n (Or.inl h)) hg2⟩, fun x j h => by rw [u2_n (Or.inl (by omega))]; exact hk1 x j (Or.inl h)⟩
              rw [show (if p - 1 < 80 then p - 1 else 80) = p - 1 by split <;> omega]
              exact cntF_congr (fun q h1 h2 => hg2 q h1 (by omega))
            · refine r_aload dX7_setStop_68 rfl ?_
              refine r_bipush dX7_setStop_70 (by decide) ?_
              refine q_callVF lk_X7_71 dX7_setStop_72 (c_stopsBefore I R (ry0 hRO (i := s) (by omega)).2 hsv0 81 (by decide)) (by decide) (ry0 hRO (i := s) (by omega)).2.1 rfl rfl (Nat.le_of_ble_eq_true rfl) (by decide) ?_
              rw [show (if (81 : Int) - 1 < 80 then (81 : Int) - 1 else 80).toNat = 80 by decide, hcn]
              have hcb := cntF_bd (a.1.2.1 s.toNat).2.2 80
              refine r_bipush dX7_setStop_75 (by decide) ?_
              refine r_icmplt (tgt := 83) dX7_setStop_77 (by decide) (by omega) (by omega) (fun h77 => ?_) (fun h77 => ?_)
              · refine r_aload_n dX7_setStop_83 rfl ?_
                refine q_callVWR lk_X7_42 dX7_setStop_84 (c_saveState I R π sg a hI hA) (by decide) sf_0 rfl rfl (Nat.le_of_ble_eq_true rfl) (by decide) (fun I1 R1 hsv => ?_)
                obtain ⟨⟨sg1, hI1⟩, hk1, hr1⟩ := hsv
                have hRO1 := hI1.1.1
                have hI1' : AtS I1 0 π a.1 := hI1.2.1
                have h61 := psh_6 a hA.2.1
                refine r_aload dX7_setStop_87 rfl ?_
                refine r_iload_n dX7_setStop_89 rfl ?_
                refine r_iload_n dX7_setStop_90 rfl ?_
                refine r_iload dX7_setStop_91 rfl ?_
                refine q_callVW lk_X7_75 dX7_setStop_93 (c_putStop I1 R1 (ry0 hRO1 (i := s) (by omega)).2 p kd le (by omega) (by omega) (by omega)) (by decide) (ry0 hRO (i := s) (by omega)).2.1 rfl rfl (Nat.le_of_ble_eq_true rfl) (by decide) (fun I2 hI2 => ?_)
                subst hI2
                have hwy1 := at0_y hI1' (i := s) (by omega)
                have hg2 : ∀ q : Int, 1 ≤ q → q ≤ 80 → u2 I1 (5 + 2 * s.toNat) p (1 + kd * 4 + le) (5 + 2 * s.toNat) q = upF (a.1.2.1 s.toNat).2.2 p (1 + kd * 4 + le) q := fun q h1 h2 => by
                  rw [u2_at]
                  unfold upF
                  by_cases hq : q = p
                  · rw [if_pos ⟨rfl, hq⟩, if_pos hq]
                  · rw [if_neg (fun z => hq z.2), if_neg hq]
                    exact hwy1.2.2 q h1 h2
                have hsv1 : SV (u2 I1 (5 + 2 * s.toNat) p (1 + kd * 4 + le) (5 + 2 * s.toNat)) := SV.congr hg2 (fun q h1 h2 => by
                  unfold upF
                  by_cases hq : q = p
                  · rw [if_pos hq]; omega
                  · rw [if_neg hq]; exact hwy.2.2.1 q h1 h2)
                refine r_aload dX7_setStop_96 rfl ?_
                refine r_iload_n dX7_setStop_98 rfl ?_
                refine q_callVF lk_X7_71 dX7_setStop_99 (c_stopsBefore _ R1 (ry0 hRO1 (i := s) (by omega)).2 hsv1 p (by omega)) (by decide) (ry0 hRO (i := s) (by omega)).2.1 rfl rfl (Nat.le_of_ble_eq_true rfl) (by decide) ?_
                refine q_iretZR dX7_setStop_102 rfl ?_
                have hpp := hy.2.2 p (by omega) (by omega)
                have e : aSetStop a s p kd le = (cntF (upF (a.1.2.1 s.toNat).2.2 p (1 + kd * 4 + le)) (p - 1).toNat, wS (psh a) (setF a.1 s.toNat (upF (a.1.2.1 s.toNat).2.2 p (1 + kd * 4 + le)))) := by
                  unfold aSetStop
                  rw [if_pos (by split <;> omega), if_neg (by omega)]
                rw [e]
                refine ⟨?_, ⟨π, sg1, hI1.sty h61 (i := s.toNat) (by omega) (fun x j h => u2_n (Or.inl h)) hg2⟩, fun x j h => by rw [u2_n (Or.inl (by omega))]; exact hk1 x j (Or.inl h)⟩
                rw [show (if p - 1 < 80 then p - 1 else 80) = p - 1 by split <;> omega]
                exact cntF_congr (fun q h1 h2 => hg2 q h1 (by omega))
              · refine r_bipush dX7_setStop_80 (by decide) ?_
                refine q_iretZR dX7_setStop_82 rfl ?_
                have hpp := hy.2.2 p (by omega) (by omega)
                have e : aSetStop a s p kd le = (-3, a) := by
                  unfold aSetStop
                  rw [if_pos (by split <;> omega), if_pos (by omega)]
                rw [e]
                exact ⟨rfl, ⟨π, sg, hI⟩, fun _ _ _ => rfl⟩
          · refine r_iconst dX7_setStop_46 ?_
            refine q_iretZR dX7_setStop_47 rfl ?_
            have e : aSetStop a s p kd le = (-1, a) := by
              unfold aSetStop
              rw [if_neg (by split <;> omega)]
            rw [e]
            exact ⟨rfl, ⟨π, sg, hI⟩, fun _ _ _ => rfl⟩
set_option maxHeartbeats 4000000 in
set_option maxRecDepth 100000 in
theorem k_removeStop (I : Mem) (R : RMem) (π sg : Nat → Nat) (a : AS) (hI : CI I R π sg a) (hA : AbsOk a) (s : Int) (hs : -2147483648 ≤ s ∧ s ≤ 2147483647) (k : Int) (hk : -2147483648 ≤ k ∧ k ≤ 2147483647) : CC 4 0 0 yX7_removeStop cX7_removeStop 5 (some .int) [.inr (some 0), .inl (s), .inl (k)] (290, ShF, I, R) (PC (aRemoveStop a s k) I) := by
  have hRO := hI.1.1
  have hcols : I 1 0 = a.1.1.1 := hI.2.1.1
  have hdist : I 1 1 = a.1.1.2.1 := hI.2.1.2.1
  have hcnt : I 1 2 = a.1.1.2.2 := hI.2.1.2.2.1
  have hW := hA.1
  have hW1 := hW.1
  have hW2 := hW.2.1
  have hW3 := hW.2.2.1
  refine CC_of (own := RX7) (ini := false) (by decide +kernel) rfl (fun h => absurd h (by decide)) (Nat.le_of_ble_eq_true rfl) ?_
  show WW cX7_removeStop RX7 5 (some .int) false 4 0 0 (PC (aRemoveStop a s k) I) 0 0 0 [some (.inr (some 0)), some (.inl (s)), some (.inl (k)), none, none] [] (290, ShF, I, R)
  refine r_aload_n dX7_removeStop_0 rfl ?_
  refine r_iload_n dX7_removeStop_1 rfl ?_
  refine q_callVF lk_X7_52 dX7_removeStop_2 (c_isStyle I R s hs) (by decide) sf_0 rfl rfl (Nat.le_of_ble_eq_true rfl) (by decide) ?_
  refine q_ifneB (tgt := 10) dX7_removeStop_5 (by decide) (fun h5 => ?_) (fun h5 => ?_)
  · refine r_aload_n dX7_removeStop_10 rfl ?_
    refine q_getR fl_X7_12 dX7_removeStop_11 sf_0 (ro_0_0 hRO) ?_
    refine q_getR fl_X7_56 dX7_removeStop_14 sf_1 (ro_1_3 hRO) ?_
    refine r_iload_n dX7_removeStop_17 rfl ?_
    refine q_aald (t := 3) (by decide) dX7_removeStop_18 sf_2 (by omega) (ry0 hRO (i := s) (by omega)).1 ?_
    have hy := at0_y hI.2.1 (i := s) (by omega)
    have hwy := hW.2.2.2.1 s.toNat (by omega)
    have hsv0 : SV (I (5 + 2 * s.toNat)) := hwy.2.2.1.congr hy.2.2
    have hcn : cntF (I (5 + 2 * s.toNat)) 80 = cntF (a.1.2.1 s.toNat).2.2 80 := cntF_congr hy.2.2
    refine r_astore_n dX7_removeStop_19 (by decide) ?_
    dsimp only [lset]
    refine r_aload_n dX7_removeStop_20 rfl ?_
    refine r_iload_n dX7_removeStop_21 rfl ?_
    refine q_callVY lk_X7_79 dX7_removeStop_22 (c_positionOf I R (ry0 hRO (i := s) (by omega)).2 hsv0 k hk) (by decide) (ry0 hRO (i := s) (by omega)).2.1 rfl rfl (Nat.le_of_ble_eq_true rfl) (by decide) (fun z hz => ?_)
    obtain ⟨hz1, hz2⟩ := posR_F (posR_congr hy.2.2 hz)
    have hzr : z = -9 ∨ (1 ≤ z ∧ z ≤ 80) := by
      by_cases h9 : z = -9
      · exact Or.inl h9
      · exact Or.inr ⟨(hz2 h9).1, (hz2 h9).2.1⟩
    refine r_istore dX7_removeStop_25 (by decide) ?_
    dsimp only [lset]
    refine r_iload dX7_removeStop_27 rfl ?_
    refine r_bipush dX7_removeStop_29 (by decide) ?_
    refine r_icmpne (tgt := 36) dX7_removeStop_31 (by decide) (by omega) (by omega) (fun h31 => ?_) (fun h31 => ?_)
    · refine r_aload_n dX7_removeStop_36 rfl ?_
      refine q_callVWR lk_X7_42 dX7_removeStop_37 (c_saveState I R π sg a hI hA) (by decide) sf_0 rfl rfl (Nat.le_of_ble_eq_true rfl) (by decide) (fun I1 R1 hsv => ?_)
      obtain ⟨⟨sg1, hI1⟩, hk1, hr1⟩ := hsv
      have hRO1 := hI1.1.1
      have hI1' : AtS I1 0 π a.1 := hI1.2.1
      have h61 := psh_6 a hA.2.1
      refine r_aload_n dX7_removeStop_40 rfl ?_
      refine r_iload dX7_removeStop_41 rfl ?_
      refine q_callVW lk_X7_82 dX7_removeStop_43 (c_dropStop I1 R1 (ry0 hRO1 (i := s) (by omega)).2 z (by omega)) (by decide) (ry0 hRO (i := s) (by omega)).2.1 rfl rfl (Nat.le_of_ble_eq_true rfl) (by decide) (fun I2 hI2 => ?_)
      subst hI2
      have hwy1 := at0_y hI1' (i := s) (by omega)
      have hg2 : ∀ q : Int, 1 ≤ q → q ≤ 80 → u2 I1 (5 + 2 * s.toNat) z 0 (5 + 2 * s.toNat) q = upF (a.1.2.1 s.toNat).2.2 z 0 q := fun q h1 h2 => by
        rw [u2_at]
        unfold upF
        by_cases hq : q = z
        · rw [if_pos ⟨rfl, hq⟩, if_pos hq]
        · rw [if_neg (fun y => hq y.2), if_neg hq]
          exact hwy1.2.2 q h1 h2
      have hsv1 : SV (u2 I1 (5 + 2 * s.toNat) z 0 (5 + 2 * s.toNat)) := SV.congr hg2 (fun q h1 h2 => by
        unfold upF
        by_cases hq : q = z
        · rw [if_pos hq]; omega
        · rw [if_neg hq]; exact hwy.2.2.1 q h1 h2)
      refine r_aload_n dX7_removeStop_46 rfl ?_
      refine r_bipush dX7_removeStop_47 (by decide) ?_
      refine q_callVF lk_X7_71 dX7_removeStop_49 (c_stopsBefore _ R1 (ry0 hRO1 (i := s) (by omega)).2 hsv1 81 (by decide)) (by decide) (ry0 hRO (i := s) (by omega)).2.1 rfl rfl (Nat.le_of_ble_eq_true rfl) (by decide) ?_
      rw [show (if (81 : Int) - 1 < 80 then (81 : Int) - 1 else 80).toNat = 80 by decide]
      refine q_iretZR dX7_removeStop_52 rfl ?_
      have e : aRemoveStop a s k = (cntF (upF (a.1.2.1 s.toNat).2.2 (posF (a.1.2.1 s.toNat).2.2 k) 0) 80, wS (psh a) (setF a.1 s.toNat (upF (a.1.2.1 s.toNat).2.2 (posF (a.1.2.1 s.toNat).2.2 k) 0))) := by
        unfold aRemoveStop
        rw [if_pos (by omega)]
      rw [e, ← hz1]
      exact ⟨cntF_congr hg2, ⟨π, sg1, hI1.sty h61 (i := s.toNat) (by omega) (fun x j h => u2_n (Or.inl h)) hg2⟩, fun x j h => by rw [u2_n (Or.inl (by omega))]; exact hk1 x j (Or.inl h)⟩
    · refine r_iconst dX7_removeStop_34 ?_
      refine q_iretZR dX7_removeStop_35 rfl ?_
      have e : aRemoveStop a s k = (-1, a) := by
        unfold aRemoveStop
        rw [if_neg (by omega)]
      rw [e]
      exact ⟨rfl, ⟨π, sg, hI⟩, fun _ _ _ => rfl⟩
  · refine r_iconst dX7_removeStop_8 ?_
    refine q_iretZR dX7_removeStop_9 rfl ?_
    have e : aRemoveStop a s k = (-1, a) := by
      unfold aRemoveStop
      rw [if_neg (by omega)]
    rw [e]
    exact ⟨rfl, ⟨π, sg, hI⟩, fun _ _ _ => rfl⟩
set_option maxHeartbeats 4000000 in
set_option maxRecDepth 100000 in
theorem k_addParagraph (I : Mem) (R : RMem) (π sg : Nat → Nat) (a : AS) (hI : CI I R π sg a) (hA : AbsOk a) (s : Int) (hs : -2147483648 ≤ s ∧ s ≤ 2147483647) : CC 4 0 0 yX7_addParagraph cX7_addParagraph 3 (some .int) [.inr (some 0), .inl (s)] (290, ShF, I, R) (PC (aAddPar a s) I) := by
  have hRO := hI.1.1
  have hcols : I 1 0 = a.1.1.1 := hI.2.1.1
  have hdist : I 1 1 = a.1.1.2.1 := hI.2.1.2.1
  have hcnt : I 1 2 = a.1.1.2.2 := hI.2.1.2.2.1
  have hW := hA.1
  have hW1 := hW.1
  have hW2 := hW.2.1
  have hW3 := hW.2.2.1
  refine CC_of (own := RX7) (ini := false) (by decide +kernel) rfl (fun h => absurd h (by decide)) (Nat.le_of_ble_eq_true rfl) ?_
  show WW cX7_addParagraph RX7 3 (some .int) false 4 0 0 (PC (aAddPar a s) I) 0 0 0 [some (.inr (some 0)), some (.inl (s)), none] [] (290, ShF, I, R)
  refine r_aload_n dX7_addParagraph_0 rfl ?_
  refine r_iload_n dX7_addParagraph_1 rfl ?_
  refine q_callVF lk_X7_52 dX7_addParagraph_2 (c_isStyle I R s hs) (by decide) sf_0 rfl rfl (Nat.le_of_ble_eq_true rfl) (by decide) ?_
  refine q_ifneB (tgt := 10) dX7_addParagraph_5 (by decide) (fun h5 => ?_) (fun h5 => ?_)
  · refine r_aload_n dX7_addParagraph_10 rfl ?_
    refine q_getR fl_X7_12 dX7_addParagraph_11 sf_0 (ro_0_0 hRO) ?_
    refine q_getI fl_X7_101 dX7_addParagraph_14 sf_1 ?_
    rw [hcnt]
    refine r_bipush dX7_addParagraph_17 (by decide) ?_
    refine r_icmplt (tgt := 25) dX7_addParagraph_19 (by decide) (by omega) (by omega) (fun h19 => ?_) (fun h19 => ?_)
    · refine r_aload_n dX7_addParagraph_25 rfl ?_
      refine q_callVWR lk_X7_42 dX7_addParagraph_26 (c_saveState I R π sg a hI hA) (by decide) sf_0 rfl rfl (Nat.le_of_ble_eq_true rfl) (by decide) (fun I1 R1 hsv => ?_)
      obtain ⟨⟨sg1, hI1⟩, hk1, hr1⟩ := hsv
      have hRO1 := hI1.1.1
      have hI1' : AtS I1 0 π a.1 := hI1.2.1
      have h61 := psh_6 a hA.2.1
      have hc1 : I1 1 2 = a.1.1.2.2 := hI1'.2.2.1
      refine r_aload_n dX7_addParagraph_29 rfl ?_
      refine q_getR fl_X7_12 dX7_addParagraph_30 sf_0 (ro_0_0 hRO1) ?_
      refine q_getI fl_X7_101 dX7_addParagraph_33 sf_1 ?_
      rw [hc1]
      refine r_istore_n dX7_addParagraph_36 (by decide) ?_
      dsimp only [lset]
      refine r_aload_n dX7_addParagraph_37 rfl ?_
      refine q_getR fl_X7_12 dX7_addParagraph_38 sf_0 (ro_0_0 hRO1) ?_
      refine q_getR fl_X7_104 dX7_addParagraph_41 sf_1 (ro_1_4 hRO1) ?_
      refine r_iload_n dX7_addParagraph_44 rfl ?_
      refine q_aald (t := 4) (by decide) dX7_addParagraph_45 sf_3 (by omega) (rp0 hRO1 hI1.1.2.1 (i := a.1.1.2.2) (by omega)).1 ?_
      refine r_iload_n dX7_addParagraph_46 rfl ?_
      refine q_putI fl_X7_108 dX7_addParagraph_47 (rp0 hRO1 hI1.1.2.1 (i := a.1.1.2.2) (by omega)).2.1.1 ?_
      refine r_aload_n dX7_addParagraph_50 rfl ?_
      refine q_getR fl_X7_12 dX7_addParagraph_51 sf_0 (ro_0_0 hRO1) ?_
      refine q_getR fl_X7_104 dX7_addParagraph_54 sf_1 (ro_1_4 hRO1) ?_
      refine r_iload_n dX7_addParagraph_57 rfl ?_
      refine q_aald (t := 4) (by decide) dX7_addParagraph_58 sf_3 (by omega) (rp0 hRO1 hI1.1.2.1 (i := a.1.1.2.2) (by omega)).1 ?_
      refine r_iconst dX7_addParagraph_59 ?_
      refine q_putI fl_X7_113 dX7_addParagraph_60 (rp0 hRO1 hI1.1.2.1 (i := a.1.1.2.2) (by omega)).2.1.1 ?_
      refine r_aload_n dX7_addParagraph_63 rfl ?_
      refine q_getR fl_X7_12 dX7_addParagraph_64 sf_0 (ro_0_0 hRO1) ?_
      refine r_dup dX7_addParagraph_67 ?_
      refine q_getI fl_X7_101 dX7_addParagraph_68 sf_1 ?_
      refine r_iconst dX7_addParagraph_71 ?_
      refine r_iadd dX7_addParagraph_72 ?_
      refine q_putI fl_X7_101 dX7_addParagraph_73 sf_1 ?_
      refine r_iload_n dX7_addParagraph_76 rfl ?_
      refine q_iretZR dX7_addParagraph_77 rfl ?_
      have e : aAddPar a s = (a.1.1.2.2, wS (psh a) ((a.1.1.1, a.1.1.2.1, a.1.1.2.2 + 1), a.1.2.1, upY a.1.2.2 a.1.1.2.2.toNat (s, 0, (a.1.2.2 a.1.1.2.2.toNat).2.2))) := by
        unfold aAddPar
        rw [if_pos (by omega), if_neg (by omega)]
      rw [e]
      have hpi := hI1.1.2.1
      have hpp := (hpi.1 a.1.1.2.2.toNat (by omega)).1
      have hk : ∀ (x : Nat) (j : Int), x ≠ 12 + 2 * π a.1.1.2.2.toNat → ¬ (x = 1 ∧ j = 2) → u2 (u2 (u2 I1 (12 + 2 * π a.1.1.2.2.toNat) 0 s) (12 + 2 * π a.1.1.2.2.toNat) 1 0) 1 2 (u2 (u2 I1 (12 + 2 * π a.1.1.2.2.toNat) 0 s) (12 + 2 * π a.1.1.2.2.toNat) 1 0 1 2 + 1) x j = I1 x j := fun x j h1 h2 => by
        rw [u2_n (by omega), u2_n (Or.inl h1), u2_n (Or.inl h1)]
      refine ⟨rfl, ⟨π, sg1, hI1.st h61 (at0_mk ((hk _ _ (by omega) (by omega)).trans hI1'.1) ((hk _ _ (by omega) (by omega)).trans hI1'.2.1) ?_ (fun i hi => ?_) (fun i hi => ?_)) (fun x j h1 h2 h3 => hk x j (by omega) (by omega))⟩, fun x j h => by rw [hk _ _ (by omega) (by omega)]; exact hk1 x j (Or.inl h)⟩
      · rw [u2_s, u2_n (Or.inl (by omega)), u2_n (Or.inl (by omega)), hc1]
      · have h9 := at0_y hI1' (i := i) (by omega)
        rw [Int.toNat_natCast] at h9
        exact h9.kept (fun j => hk _ _ (by omega) (by omega)) (fun j => hk _ _ (by omega) (by omega))
      · have h9 := at0_p hI1' (i := i) (by omega)
        rw [Int.toNat_natCast] at h9
        show AtP _ _ _ (upY a.1.2.2 a.1.1.2.2.toNat _ i)
        unfold upY
        by_cases hi2 : i = a.1.1.2.2.toNat
        · rw [if_pos hi2, hi2]
          rw [hi2] at h9
          refine ⟨?_, ?_, fun q h1 h2 => ?_⟩
          · rw [u2_n (Or.inl (by omega)), u2_n (Or.inr (by decide)), u2_s]
          · rw [u2_n (Or.inl (by omega)), u2_s]
          · rw [hk _ _ (by omega) (by omega)]
            exact h9.2.2 q h1 h2
        · rw [if_neg hi2]
          have hne : π i ≠ π a.1.1.2.2.toNat := fun z => hi2 (hpi.2 _ _ hi (by omega) z)
          exact h9.kept (fun j => hk _ _ (by omega) (by omega)) (fun j => hk _ _ (by omega) (by omega))
    · refine r_bipush dX7_addParagraph_22 (by decide) ?_
      refine q_iretZR dX7_addParagraph_24 rfl ?_
      have e : aAddPar a s = (-3, a) := by
        unfold aAddPar
        rw [if_pos (by omega), if_pos (by omega)]
      rw [e]
      exact ⟨rfl, ⟨π, sg, hI⟩, fun _ _ _ => rfl⟩
  · refine r_iconst dX7_addParagraph_8 ?_
    refine q_iretZR dX7_addParagraph_9 rfl ?_
    have e : aAddPar a s = (-1, a) := by
      unfold aAddPar
      rw [if_neg (by omega)]
    rw [e]
    exact ⟨rfl, ⟨π, sg, hI⟩, fun _ _ _ => rfl⟩
set_option maxHeartbeats 4000000 in
set_option maxRecDepth 100000 in
theorem k_setStyle (I : Mem) (R : RMem) (π sg : Nat → Nat) (a : AS) (hI : CI I R π sg a) (hA : AbsOk a) (p : Int) (hp : -2147483648 ≤ p ∧ p ≤ 2147483647) (s : Int) (hs : -2147483648 ≤ s ∧ s ≤ 2147483647) : CC 4 0 0 yX7_setStyle cX7_setStyle 4 (some .int) [.inr (some 0), .inl (p), .inl (s)] (290, ShF, I, R) (PC (aSetStyle a p s) I) := by
  have hRO := hI.1.1
  have hcols : I 1 0 = a.1.1.1 := hI.2.1.1
  have hdist : I 1 1 = a.1.1.2.1 := hI.2.1.2.1
  have hcnt : I 1 2 = a.1.1.2.2 := hI.2.1.2.2.1
  have hW := hA.1
  have hW1 := hW.1
  have hW2 := hW.2.1
  have hW3 := hW.2.2.1
  refine CC_of (own := RX7) (ini := false) (by decide +kernel) rfl (fun h => absurd h (by decide)) (Nat.le_of_ble_eq_true rfl) ?_
  show WW cX7_setStyle RX7 4 (some .int) false 4 0 0 (PC (aSetStyle a p s) I) 0 0 0 [some (.inr (some 0)), some (.inl (p)), some (.inl (s)), none] [] (290, ShF, I, R)
  refine r_aload_n dX7_setStyle_0 rfl ?_
  refine r_iload_n dX7_setStyle_1 rfl ?_
  refine q_callVF lk_X7_116 dX7_setStyle_2 (c_isParagraph I R hRO a.1.1.2.2 hcnt hW3 p hp) (by decide) sf_0 rfl rfl (Nat.le_of_ble_eq_true rfl) (by decide) ?_
  refine q_ifeqB (tgt := 16) dX7_setStyle_5 (by decide) (fun h5 => ?_) (fun h5 => ?_)
  · refine r_iconst dX7_setStyle_16 ?_
    refine q_iretZR dX7_setStyle_17 rfl ?_
    have e : aSetStyle a p s = (-1, a) := by
      unfold aSetStyle
      rw [if_neg (by omega)]
    rw [e]
    exact ⟨rfl, ⟨π, sg, hI⟩, fun _ _ _ => rfl⟩
  · refine r_aload_n dX7_setStyle_8 rfl ?_
    refine r_iload_n dX7_setStyle_9 rfl ?_
    refine q_callVF lk_X7_52 dX7_setStyle_10 (c_isStyle I R s hs) (by decide) sf_0 rfl rfl (Nat.le_of_ble_eq_true rfl) (by decide) ?_
    refine q_ifneB (tgt := 18) dX7_setStyle_13 (by decide) (fun h13 => ?_) (fun h13 => ?_)
    · refine r_aload_n dX7_setStyle_18 rfl ?_
      refine q_callVWR lk_X7_42 dX7_setStyle_19 (c_saveState I R π sg a hI hA) (by decide) sf_0 rfl rfl (Nat.le_of_ble_eq_true rfl) (by decide) (fun I1 R1 hsv => ?_)
      obtain ⟨⟨sg1, hI1⟩, hk1, hr1⟩ := hsv
      have hRO1 := hI1.1.1
      have hI1' : AtS I1 0 π a.1 := hI1.2.1
      have h61 := psh_6 a hA.2.1
      refine r_aload_n dX7_setStyle_22 rfl ?_
      refine q_getR fl_X7_12 dX7_setStyle_23 sf_0 (ro_0_0 hRO1) ?_
      refine q_getR fl_X7_104 dX7_setStyle_26 sf_1 (ro_1_4 hRO1) ?_
      refine r_iload_n dX7_setStyle_29 rfl ?_
      refine q_aald (t := 4) (by decide) dX7_setStyle_30 sf_3 (by omega) (rp0 hRO1 hI1.1.2.1 (i := p) (by omega)).1 ?_
      refine q_getI fl_X7_108 dX7_setStyle_31 (rp0 hRO1 hI1.1.2.1 (i := p) (by omega)).2.1.1 ?_
      refine r_istore_n dX7_setStyle_34 (by decide) ?_
      dsimp only [lset]
      refine r_aload_n dX7_setStyle_35 rfl ?_
      refine q_getR fl_X7_12 dX7_setStyle_36 sf_0 (ro_0_0 hRO1) ?_
      refine q_getR fl_X7_104 dX7_setStyle_39 sf_1 (ro_1_4 hRO1) ?_
      refine r_iload_n dX7_setStyle_42 rfl ?_
      refine q_aald (t := 4) (by decide) dX7_setStyle_43 sf_3 (by omega) (rp0 hRO1 hI1.1.2.1 (i := p) (by omega)).1 ?_
      refine r_iload_n dX7_setStyle_44 rfl ?_
      refine q_putI fl_X7_108 dX7_setStyle_45 (rp0 hRO1 hI1.1.2.1 (i := p) (by omega)).2.1.1 ?_
      refine r_iload_n dX7_setStyle_48 rfl ?_
      refine q_iretZR dX7_setStyle_49 rfl ?_
      have e : aSetStyle a p s = ((a.1.2.2 p.toNat).1, wS (psh a) (setP a.1 p.toNat (s, (a.1.2.2 p.toNat).2))) := by
        unfold aSetStyle
        rw [if_pos (by omega)]
      rw [e]
      have h9 := at0_p hI1' (i := p) (by omega)
      have hpp := (hI1.1.2.1.1 p.toNat (by omega)).1
      exact ⟨h9.1, ⟨π, sg1, hI1.par h61 (i := p.toNat) (by omega) (fun x j h1 h2 => u2_n (Or.inl h1)) ⟨u2_s, (u2_n (Or.inr (by decide))).trans h9.2.1, fun q h1 h2 => (u2_n (Or.inl (by omega))).trans (h9.2.2 q h1 h2)⟩⟩, fun x j h => by rw [u2_n (Or.inl (by omega))]; exact hk1 x j (Or.inl h)⟩
    · refine r_iconst dX7_setStyle_16 ?_
      refine q_iretZR dX7_setStyle_17 rfl ?_
      have e : aSetStyle a p s = (-1, a) := by
        unfold aSetStyle
        rw [if_neg (by omega)]
      rw [e]
      exact ⟨rfl, ⟨π, sg, hI⟩, fun _ _ _ => rfl⟩
set_option maxHeartbeats 4000000 in
set_option maxRecDepth 100000 in
theorem k_undo (I : Mem) (R : RMem) (π sg : Nat → Nat) (a : AS) (hI : CI I R π sg a) (hA : AbsOk a)  : CC 4 0 0 yX7_undo cX7_undo 1 (some .int) [.inr (some 0)] (290, ShF, I, R) (PC (aUndo a) I) := by
  have hRO := hI.1.1
  have hcols : I 1 0 = a.1.1.1 := hI.2.1.1
  have hdist : I 1 1 = a.1.1.2.1 := hI.2.1.2.1
  have hcnt : I 1 2 = a.1.1.2.2 := hI.2.1.2.2.1
  have hW := hA.1
  have hW1 := hW.1
  have hW2 := hW.2.1
  have hW3 := hW.2.2.1
  refine CC_of (own := RX7) (ini := false) (by decide +kernel) rfl (fun h => absurd h (by decide)) (Nat.le_of_ble_eq_true rfl) ?_
  show WW cX7_undo RX7 1 (some .int) false 4 0 0 (PC (aUndo a) I) 0 0 0 [some (.inr (some 0))] [] (290, ShF, I, R)
  refine r_aload_n dX7_undo_0 rfl ?_
  refine q_getI fl_X7_137 dX7_undo_1 sf_0 ?_
  have hn6 := hA.2.1
  have hnn := hI.2.2.1
  rw [hnn]
  refine r_iconst dX7_undo_4 ?_
  refine r_icmpge (tgt := 11) dX7_undo_5 (by decide) (by omega) (by omega) (fun h5 => ?_) (fun h5 => ?_)
  · refine r_aload_n dX7_undo_11 rfl ?_
    refine r_dup dX7_undo_12 ?_
    refine q_getI fl_X7_137 dX7_undo_13 sf_0 ?_
    refine r_iconst dX7_undo_16 ?_
    rw [hnn]
    refine r_isub dX7_undo_17 ?_
    refine q_putI fl_X7_137 dX7_undo_18 sf_0 ?_
    have hv : u2 I 0 2 ((a.2.1 : Int) - 1) 0 2 = (a.2.1 : Int) - 1 := u2_s
    refine r_aload_n dX7_undo_21 rfl ?_
    refine q_getR fl_X7_12 dX7_undo_22 sf_0 (ro_0_0 hRO) ?_
    refine r_aload_n dX7_undo_25 rfl ?_
    refine q_getR fl_X7_16 dX7_undo_26 sf_0 (ro_0_1 hRO) ?_
    refine r_aload_n dX7_undo_29 rfl ?_
    refine q_getI fl_X7_137 dX7_undo_30 sf_0 ?_
    refine q_aald (t := 2) (by decide) dX7_undo_33 sf_28 (by rw [hv]; omega) (hv.symm ▸ (sav_at hI.1.2.2.2 (i := (a.2.1 : Int) - 1) (by omega)).1) ?_
    have hsa := sav_at hI.1.2.2.2 (i := (a.2.1 : Int) - 1) (by omega)
    have hbl := stB_in hsa.2.2
    have hb0 : stB 0 = 1 := rfl
    have hsav := hI.2.2.2.1 (a.2.1 - 1) (by omega)
    have hnt : ((a.2.1 : Int) - 1).toNat = a.2.1 - 1 := by omega
    refine q_callVW lk_X7_201 dX7_undo_34 (c_takeAllOf _ R hRO (k := 0) (q := sg ((a.2.1 : Int) - 1).toNat) (by omega) hsa.2.2 (by omega) hI.1.2.1 (hI.1.2.2.1 _ hsa.2.1 hsa.2.2) (σ := a.2.2.1 (a.2.1 - 1)) (by rw [hnt] at hsa hbl ⊢; exact hsav.kept (fun i hi => hi) (fun x j h1 h2 => u2_n (Or.inl (by omega))))) (by decide) sf_1 rfl rfl (Nat.le_of_ble_eq_true rfl) (by decide) (fun I2 hI2 => ?_)
    refine r_aload_n dX7_undo_37 rfl ?_
    refine q_getI fl_X7_137 dX7_undo_38 sf_0 ?_
    refine q_iretZR dX7_undo_41 rfl ?_
    have e : aUndo a = ((a.2.1 : Int) - 1, (a.2.2.1 (a.2.1 - 1), a.2.1 - 1, a.2.2)) := by
      unfold aUndo
      rw [if_neg (by omega)]
    rw [e]
    have hk : ∀ (x : Nat) (j : Int), x = 0 ∨ 28 ≤ x → ¬ (x = 0 ∧ j = 2) → I2 x j = I x j := fun x j h1 h2 => by rw [hI2.2 x j (by omega), u2_n (by omega)]
    have hcc : I2 0 2 = (a.2.1 : Int) - 1 := by rw [hI2.2 _ _ (by omega)]; exact hv
    refine ⟨hcc, ⟨π, sg, hI.1, hI2.1, ?_, fun j hj => ?_, (hk _ _ (by omega) (by omega)).trans hI.2.2.2.2.1, fun j h1 h2 => (hk _ _ (by omega) (by omega)).trans (hI.2.2.2.2.2 j h1 h2)⟩, fun x j h => hk x j (by omega) (by omega)⟩
    · rw [hcc]
      show _ = ((a.2.1 - 1 : Nat) : Int)
      omega
    · have hj : j < a.2.1 - 1 := hj
      have hq := hI.1.2.2.2.1 j (by omega)
      have hb := stB_in hq.2.1
      exact (hI.2.2.2.1 j (by omega)).kept (fun i hi => hi) (fun x z h1 h2 => hk x z (by omega) (by omega))
  · refine r_bipush dX7_undo_8 (by decide) ?_
    refine q_iretZR dX7_undo_10 rfl ?_
    have e : aUndo a = (-2, a) := by
      unfold aUndo
      rw [if_pos (by omega)]
    rw [e]
    exact ⟨rfl, ⟨π, sg, hI⟩, fun _ _ _ => rfl⟩
set_option maxHeartbeats 4000000 in
set_option maxRecDepth 100000 in
theorem k_character (I : Mem) (R : RMem) (π sg : Nat → Nat) (a : AS) (hI : CI I R π sg a) (hA : AbsOk a) (p : Int) (hp : -2147483648 ≤ p ∧ p ≤ 2147483647) (i : Int) (hi : -2147483648 ≤ i ∧ i ≤ 2147483647) : CC 4 0 0 yX7_character cX7_character 3 (some .int) [.inr (some 0), .inl (p), .inl (i)] (290, ShF, I, R) (PF (aCharQ a p i) I R) := by
  have hRO := hI.1.1
  have hcols : I 1 0 = a.1.1.1 := hI.2.1.1
  have hdist : I 1 1 = a.1.1.2.1 := hI.2.1.2.1
  have hcnt : I 1 2 = a.1.1.2.2 := hI.2.1.2.2.1
  have hW := hA.1
  have hW1 := hW.1
  have hW2 := hW.2.1
  have hW3 := hW.2.2.1
  refine CC_of (own := RX7) (ini := false) (by decide +kernel) rfl (fun h => absurd h (by decide)) (Nat.le_of_ble_eq_true rfl) ?_
  show WW cX7_character RX7 3 (some .int) false 4 0 0 (PF (aCharQ a p i) I R) 0 0 0 [some (.inr (some 0)), some (.inl (p)), some (.inl (i))] [] (290, ShF, I, R)
  refine r_aload_n dX7_character_0 rfl ?_
  refine r_iload_n dX7_character_1 rfl ?_
  refine q_callVF lk_X7_116 dX7_character_2 (c_isParagraph I R hRO a.1.1.2.2 hcnt hW3 p hp) (by decide) sf_0 rfl rfl (Nat.le_of_ble_eq_true rfl) (by decide) ?_
  refine q_ifeqB (tgt := 12) dX7_character_5 (by decide) (fun h5 => ?_) (fun h5 => ?_)
  · refine r_iconst dX7_character_12 ?_
    refine q_iretF dX7_character_13 rfl ?_
    unfold aCharQ
    rw [if_neg (by omega)]
  · refine r_iload_n dX7_character_8 rfl ?_
    refine r_ifge (tgt := 14) dX7_character_9 (by decide) (by omega) (fun h9 => ?_) (fun h9 => ?_)
    · refine r_aload_n dX7_character_14 rfl ?_
      refine q_getR fl_X7_12 dX7_character_15 sf_0 (ro_0_0 hRO) ?_
      refine q_getR fl_X7_104 dX7_character_18 sf_1 (ro_1_4 hRO) ?_
      refine r_iload_n dX7_character_21 rfl ?_
      refine q_aald (t := 4) (by decide) dX7_character_22 sf_3 (by omega) (rp0 hRO hI.1.2.1 (i := p) (by omega)).1 ?_
      refine r_iload_n dX7_character_23 rfl ?_
      have h9 := at0_p hI.2.1 (i := p) (by omega)
      have hwp := hW.2.2.2.2 p.toNat (by omega)
      have hwl := hwp.2.1
      have h92 := h9.2.1
      refine q_callVF lk_X7_153 dX7_character_24 (c_characterAt I R (rp0 hRO hI.1.2.1 (i := p) (by omega)).2.1 i hi (by omega)) (by decide) (rp0 hRO hI.1.2.1 (i := p) (by omega)).2.1.1 rfl rfl (Nat.le_of_ble_eq_true rfl) (by decide) ?_
      refine q_iretF dX7_character_27 rfl ?_
      unfold aCharQ
      rw [if_pos (show (0 ≤ p ∧ p ≤ a.1.1.2.2 - 1) ∧ 0 ≤ i by omega), h92]
      by_cases hil : i < (a.1.2.2 p.toNat).2.1
      · rw [if_pos (by omega), if_pos hil]
        exact h9.2.2 i (by omega) (by omega)
      · rw [if_neg (by omega), if_neg hil]
    · refine r_iconst dX7_character_12 ?_
      refine q_iretF dX7_character_13 rfl ?_
      unfold aCharQ
      rw [if_neg (by omega)]
set_option maxHeartbeats 4000000 in
set_option maxRecDepth 100000 in
theorem k_stop (I : Mem) (R : RMem) (π sg : Nat → Nat) (a : AS) (hI : CI I R π sg a) (hA : AbsOk a) (s : Int) (hs : -2147483648 ≤ s ∧ s ≤ 2147483647) (k : Int) (hk : -2147483648 ≤ k ∧ k ≤ 2147483647) (w : Int) (hw : -2147483648 ≤ w ∧ w ≤ 2147483647) : CC 4 0 0 yX7_stop cX7_stop 6 (some .int) [.inr (some 0), .inl (s), .inl (k), .inl (w)] (290, ShF, I, R) (PF (aStopQ a s k w) I R) := by
  have hRO := hI.1.1
  have hcols : I 1 0 = a.1.1.1 := hI.2.1.1
  have hdist : I 1 1 = a.1.1.2.1 := hI.2.1.2.1
  have hcnt : I 1 2 = a.1.1.2.2 := hI.2.1.2.2.1
  have hW := hA.1
  have hW1 := hW.1
  have hW2 := hW.2.1
  have hW3 := hW.2.2.1
  refine CC_of (own := RX7) (ini := false) (by decide +kernel) rfl (fun h => absurd h (by decide)) (Nat.le_of_ble_eq_true rfl) ?_
  show WW cX7_stop RX7 6 (some .int) false 4 0 0 (PF (aStopQ a s k w) I R) 0 0 0 [some (.inr (some 0)), some (.inl (s)), some (.inl (k)), some (.inl (w)), none, none] [] (290, ShF, I, R)
  refine r_aload_n dX7_stop_0 rfl ?_
  refine r_iload_n dX7_stop_1 rfl ?_
  refine q_callVF lk_X7_52 dX7_stop_2 (c_isStyle I R s hs) (by decide) sf_0 rfl rfl (Nat.le_of_ble_eq_true rfl) (by decide) ?_
  refine q_ifeqB (tgt := 21) dX7_stop_5 (by decide) (fun h5 => ?_) (fun h5 => ?_)
  · refine r_iconst dX7_stop_21 ?_
    refine q_iretF dX7_stop_22 rfl ?_
    unfold aStopQ
    rw [if_neg (by omega)]
  · refine r_iload_n dX7_stop_8 rfl ?_
    refine r_iflt (tgt := 21) dX7_stop_9 (by decide) (by omega) (fun h9 => ?_) (fun h9 => ?_)
    · refine r_iconst dX7_stop_21 ?_
      refine q_iretF dX7_stop_22 rfl ?_
      unfold aStopQ
      rw [if_neg (by omega)]
    · refine r_iload_n dX7_stop_12 rfl ?_
      refine r_iconst dX7_stop_13 ?_
      refine r_iconst dX7_stop_14 ?_
      refine q_callSF lk_X7_38 dX7_stop_15 (c_isWithin I R w 0 2 hw (by decide) (by decide)) (by decide) rfl rfl (Nat.le_of_ble_eq_true rfl) (by decide) ?_
      refine q_ifneB (tgt := 23) dX7_stop_18 (by decide) (fun h18 => ?_) (fun h18 => ?_)
      · refine r_aload_n dX7_stop_23 rfl ?_
        refine q_getR fl_X7_12 dX7_stop_24 sf_0 (ro_0_0 hRO) ?_
        refine q_getR fl_X7_56 dX7_stop_27 sf_1 (ro_1_3 hRO) ?_
        refine r_iload_n dX7_stop_30 rfl ?_
        refine q_aald (t := 3) (by decide) dX7_stop_31 sf_2 (by omega) (ry0 hRO (i := s) (by omega)).1 ?_
        have hy := at0_y hI.2.1 (i := s) (by omega)
        have hwy := hW.2.2.2.1 s.toNat (by omega)
        have hsv0 : SV (I (5 + 2 * s.toNat)) := hwy.2.2.1.congr hy.2.2
        have hcn : cntF (I (5 + 2 * s.toNat)) 80 = cntF (a.1.2.1 s.toNat).2.2 80 := cntF_congr hy.2.2
        refine r_astore dX7_stop_32 (by decide) ?_
        dsimp only [lset]
        refine r_aload dX7_stop_34 rfl ?_
        refine r_iload_n dX7_stop_36 rfl ?_
        refine q_callVY lk_X7_79 dX7_stop_37 (c_positionOf I R (ry0 hRO (i := s) (by omega)).2 hsv0 k hk) (by decide) (ry0 hRO (i := s) (by omega)).2.1 rfl rfl (Nat.le_of_ble_eq_true rfl) (by decide) (fun z hz => ?_)
        obtain ⟨hz1, hz2⟩ := posR_F (posR_congr hy.2.2 hz)
        have hzr : z = -9 ∨ (1 ≤ z ∧ z ≤ 80) := by
          by_cases h9 : z = -9
          · exact Or.inl h9
          · exact Or.inr ⟨(hz2 h9).1, (hz2 h9).2.1⟩
        refine r_istore dX7_stop_40 (by decide) ?_
        dsimp only [lset]
        refine r_iload dX7_stop_42 rfl ?_
        refine r_bipush dX7_stop_44 (by decide) ?_
        refine r_icmpeq (tgt := 53) dX7_stop_46 (by decide) (by omega) (by omega) (fun h46 => ?_) (fun h46 => ?_)
        · refine r_iload dX7_stop_53 rfl ?_
          refine q_iretF dX7_stop_55 rfl ?_
          unfold aStopQ
          rw [if_pos (show (0 ≤ s ∧ s ≤ 3) ∧ 0 ≤ k ∧ (0 ≤ w ∧ w ≤ 2) by omega)]
          rw [← hz1, if_pos (by omega)]
        · refine r_iload_n dX7_stop_49 rfl ?_
          refine r_ifne (tgt := 56) dX7_stop_50 (by decide) (by omega) (fun h50 => ?_) (fun h50 => ?_)
          · refine r_iload_n dX7_stop_56 rfl ?_
            refine r_iconst dX7_stop_57 ?_
            refine r_icmpne (tgt := 71) dX7_stop_58 (by decide) (by omega) (by omega) (fun h58 => ?_) (fun h58 => ?_)
            · refine r_aload dX7_stop_71 rfl ?_
              refine r_iload dX7_stop_73 rfl ?_
              refine q_callVF lk_X7_150 dX7_stop_75 (c_leaderAt I R (ry0 hRO (i := s) (by omega)).2 hsv0 z (by omega)) (by decide) (ry0 hRO (i := s) (by omega)).2.1 rfl rfl (Nat.le_of_ble_eq_true rfl) (by decide) ?_
              refine q_iretF dX7_stop_78 rfl ?_
              have hzn : z ≠ -9 := by omega
              have hst := hz2 hzn
              have hyz := hy.2.2 z hst.1 hst.2.1
              have hnz := hst.2.2
              unfold aStopQ
              rw [if_pos (show (0 ≤ s ∧ s ≤ 3) ∧ 0 ≤ k ∧ (0 ≤ w ∧ w ≤ 2) by omega)]
              rw [← hz1, if_neg (show ¬ (z = -9 ∨ w = 0) by omega), if_pos (show 1 ≤ z ∧ z ≤ 80 ∧ I (5 + 2 * s.toNat) z ≠ 0 from ⟨hst.1, hst.2.1, by rw [hyz]; exact hnz⟩), hyz]
              first | (rw [if_pos (show w = 1 by omega)]; done) | (rw [if_neg (show ¬ w = 1 by omega)]; done)
            · refine r_aload dX7_stop_61 rfl ?_
              refine r_iload dX7_stop_63 rfl ?_
              refine q_callVF lk_X7_147 dX7_stop_65 (c_kindAt I R (ry0 hRO (i := s) (by omega)).2 hsv0 z (by omega)) (by decide) (ry0 hRO (i := s) (by omega)).2.1 rfl rfl (Nat.le_of_ble_eq_true rfl) (by decide) ?_
              refine r_goto (tgt := 78) dX7_stop_68 (by decide) ?_
              refine q_iretF dX7_stop_78 rfl ?_
              have hzn : z ≠ -9 := by omega
              have hst := hz2 hzn
              have hyz := hy.2.2 z hst.1 hst.2.1
              have hnz := hst.2.2
              unfold aStopQ
              rw [if_pos (show (0 ≤ s ∧ s ≤ 3) ∧ 0 ≤ k ∧ (0 ≤ w ∧ w ≤ 2) by omega)]
              rw [← hz1, if_neg (show ¬ (z = -9 ∨ w = 0) by omega), if_pos (show 1 ≤ z ∧ z ≤ 80 ∧ I (5 + 2 * s.toNat) z ≠ 0 from ⟨hst.1, hst.2.1, by rw [hyz]; exact hnz⟩), hyz]
              first | (rw [if_pos (show w = 1 by omega)]; done) | (rw [if_neg (show ¬ w = 1 by omega)]; done)
          · refine r_iload dX7_stop_53 rfl ?_
            refine q_iretF dX7_stop_55 rfl ?_
            unfold aStopQ
            rw [if_pos (show (0 ≤ s ∧ s ≤ 3) ∧ 0 ≤ k ∧ (0 ≤ w ∧ w ≤ 2) by omega)]
            rw [← hz1, if_pos (by omega)]
      · refine r_iconst dX7_stop_21 ?_
        refine q_iretF dX7_stop_22 rfl ?_
        unfold aStopQ
        rw [if_neg (by omega)]
set_option maxHeartbeats 4000000 in
set_option maxRecDepth 100000 in
theorem k_style (I : Mem) (R : RMem) (π sg : Nat → Nat) (a : AS) (hI : CI I R π sg a) (hA : AbsOk a) (s : Int) (hs : -2147483648 ≤ s ∧ s ≤ 2147483647) (w : Int) (hw : -2147483648 ≤ w ∧ w ≤ 2147483647) : CC 4 0 0 yX7_style cX7_style 4 (some .int) [.inr (some 0), .inl (s), .inl (w)] (290, ShF, I, R) (PF (aStyleQ a s w) I R) := by
  have hRO := hI.1.1
  have hcols : I 1 0 = a.1.1.1 := hI.2.1.1
  have hdist : I 1 1 = a.1.1.2.1 := hI.2.1.2.1
  have hcnt : I 1 2 = a.1.1.2.2 := hI.2.1.2.2.1
  have hW := hA.1
  have hW1 := hW.1
  have hW2 := hW.2.1
  have hW3 := hW.2.2.1
  refine CC_of (own := RX7) (ini := false) (by decide +kernel) rfl (fun h => absurd h (by decide)) (Nat.le_of_ble_eq_true rfl) ?_
  show WW cX7_style RX7 4 (some .int) false 4 0 0 (PF (aStyleQ a s w) I R) 0 0 0 [some (.inr (some 0)), some (.inl (s)), some (.inl (w)), none] [] (290, ShF, I, R)
  refine r_aload_n dX7_style_0 rfl ?_
  refine r_iload_n dX7_style_1 rfl ?_
  refine q_callVF lk_X7_52 dX7_style_2 (c_isStyle I R s hs) (by decide) sf_0 rfl rfl (Nat.le_of_ble_eq_true rfl) (by decide) ?_
  refine q_ifneB (tgt := 10) dX7_style_5 (by decide) (fun h5 => ?_) (fun h5 => ?_)
  · refine r_aload_n dX7_style_10 rfl ?_
    refine q_getR fl_X7_12 dX7_style_11 sf_0 (ro_0_0 hRO) ?_
    refine q_getR fl_X7_56 dX7_style_14 sf_1 (ro_1_3 hRO) ?_
    refine r_iload_n dX7_style_17 rfl ?_
    refine q_aald (t := 3) (by decide) dX7_style_18 sf_2 (by omega) (ry0 hRO (i := s) (by omega)).1 ?_
    have hy := at0_y hI.2.1 (i := s) (by omega)
    have hwy := hW.2.2.2.1 s.toNat (by omega)
    have hsv0 : SV (I (5 + 2 * s.toNat)) := hwy.2.2.1.congr hy.2.2
    have hcn : cntF (I (5 + 2 * s.toNat)) 80 = cntF (a.1.2.1 s.toNat).2.2 80 := cntF_congr hy.2.2
    refine r_astore_n dX7_style_19 (by decide) ?_
    dsimp only [lset]
    refine r_iload_n dX7_style_20 rfl ?_
    rcases (show w = 0 ∨ w = 1 ∨ w = 2 ∨ w = 3 ∨ (w < 0 ∨ 3 < w) by omega) with rfl | rfl | rfl | rfl | hww
    · refine r_tsIn (off := 31) (tgt := 52) dX7_style_21 (by decide) (by decide) rfl (by decide) ?_
      refine r_aload_n dX7_style_52 rfl ?_
      refine q_getI fl_X7_60 dX7_style_53 (ry0 hRO (i := s) (by omega)).2.1 ?_
      refine q_iretF dX7_style_56 rfl ?_
      unfold aStyleQ
      rw [if_pos (by omega), if_pos rfl]
      exact hy.1
    · refine r_tsIn (off := 36) (tgt := 57) dX7_style_21 (by decide) (by decide) rfl (by decide) ?_
      refine r_aload_n dX7_style_57 rfl ?_
      refine q_getI fl_X7_65 dX7_style_58 (ry0 hRO (i := s) (by omega)).2.1 ?_
      refine q_iretF dX7_style_61 rfl ?_
      unfold aStyleQ
      rw [if_pos (by omega), if_neg (by decide), if_pos rfl]
      exact hy.2.1
    · refine r_tsIn (off := 41) (tgt := 62) dX7_style_21 (by decide) (by decide) rfl (by decide) ?_
      refine r_aload_n dX7_style_62 rfl ?_
      refine r_bipush dX7_style_63 (by decide) ?_
      refine q_callVF lk_X7_71 dX7_style_65 (c_stopsBefore I R (ry0 hRO (i := s) (by omega)).2 hsv0 81 (by decide)) (by decide) (ry0 hRO (i := s) (by omega)).2.1 rfl rfl (Nat.le_of_ble_eq_true rfl) (by decide) ?_
      rw [show (if (81 : Int) - 1 < 80 then (81 : Int) - 1 else 80).toNat = 80 by decide, hcn]
      refine q_iretF dX7_style_68 rfl ?_
      unfold aStyleQ
      rw [if_pos (by omega), if_neg (by decide), if_neg (by decide), if_pos rfl]
    · refine r_tsIn (off := 48) (tgt := 69) dX7_style_21 (by decide) (by decide) rfl (by decide) ?_
      refine r_aload_n dX7_style_69 rfl ?_
      refine q_callVY lk_X7_140 dX7_style_70 (c_lastTab I R (ry0 hRO (i := s) (by omega)).2 hsv0) (by decide) (ry0 hRO (i := s) (by omega)).2.1 rfl rfl (Nat.le_of_ble_eq_true rfl) (by decide) (fun z hz => ?_)
      have hz1 := lastR_G hz
      rw [lastG_congr 80 (Nat.le_refl _) hy.2.2] at hz1
      have hlb := lastG_bd (a.1.2.1 s.toNat).2.2 80
      refine r_aload_n dX7_style_73 rfl ?_
      refine q_getR fl_X7_12 dX7_style_74 sf_0 (ro_0_0 hRO) ?_
      refine q_getI fl_X7_49 dX7_style_77 sf_1 ?_
      refine q_callSF lk_X7_143 dX7_style_80 (c_multipleBehind I R z (I 1 1) (by omega) (by omega)) (by decide) rfl rfl (Nat.le_of_ble_eq_true rfl) (by decide) ?_
      refine q_iretF dX7_style_83 rfl ?_
      unfold aStyleQ
      rw [if_pos (by omega), if_neg (by decide), if_neg (by decide), if_neg (by decide), if_pos rfl, hdist, hz1]
    · refine r_tsOut (tgt := 84) dX7_style_21 hw hww (by decide) ?_
      refine r_iconst dX7_style_84 ?_
      refine q_iretF dX7_style_85 rfl ?_
      unfold aStyleQ
      rw [if_pos (by omega), if_neg (by omega), if_neg (by omega), if_neg (by omega), if_neg (by omega)]
  · refine r_iconst dX7_style_8 ?_
    refine q_iretF dX7_style_9 rfl ?_
    unfold aStyleQ
    rw [if_neg (by omega)]
