/-! what each changing call does to a right state -/
theorem cnt_lt {f : Int → Int} {p : Int} (h : StpF f p) : cntF f (p - 1).toNat < cntF f 80 := by
  have h1 := cntF_step f (p := p) h.1
  rw [if_neg h.2.2] at h1
  have h2 := cntF_mono f (m := p.toNat) (n := 80) (by have := h.2.1; omega)
  omega
theorem cnt_inj {f : Int → Int} {p q : Int} (hp : StpF f p) (hq : StpF f q) (h : p < q) : cntF f (p - 1).toNat < cntF f (q - 1).toNat := by
  have h1 := cntF_step f (p := p) hp.1
  rw [if_neg hp.2.2] at h1
  have h2 := cntF_mono f (m := p.toNat) (n := (q - 1).toNat) (by omega)
  omega
theorem cnt_surj {f : Int → Int} {k : Int} : ∀ n : Nat, n ≤ 80 → 0 ≤ k → k < cntF f n → ∃ p : Int, StpF f p ∧ p ≤ n ∧ cntF f (p - 1).toNat = k
  | 0, _, h0, h => by
    simp [cntF] at h
    omega
  | n + 1, hn, h0, h => by
    have hst : cntF f (n + 1) = cntF f n + (if f ((n : Int) + 1) = 0 then 0 else 1) := rfl
    by_cases hk : k < cntF f n
    · obtain ⟨p, h1, h2, h3⟩ := cnt_surj n (by omega) h0 hk
      exact ⟨p, h1, by omega, h3⟩
    · by_cases hf : f ((n : Int) + 1) = 0
      · rw [if_pos hf] at hst
        omega
      · rw [if_neg hf] at hst
        exact ⟨(n : Int) + 1, ⟨by omega, by omega, hf⟩, by omega, by rw [show ((n : Int) + 1 - 1).toNat = n by omega]; omega⟩
theorem AbsOk.psh {a : AS} (h : AbsOk a) : AbsOk (psh a) := by
  refine ⟨h.1, psh_6 a h.2.1, fun j hj => ?_, h.2.2.2⟩
  have hj : j < nS a.2.1 := hj
  have h6 := h.2.1
  show WfS (pushS a.2.2.1 a.2.1 a.1 j)
  unfold nS at hj
  unfold pushS
  by_cases hn : a.2.1 = 6
  · rw [if_pos hn] at hj ⊢
    by_cases h5 : j = 5
    · rw [if_pos h5]; exact h.1
    · rw [if_neg h5]; exact h.2.2.1 _ (by omega)
  · rw [if_neg hn] at hj ⊢
    by_cases h5 : j = a.2.1
    · rw [if_pos h5]; exact h.1
    · rw [if_neg h5]; exact h.2.2.1 _ (by omega)
theorem AbsOk.st {a : AS} {σ : CS} (h : AbsOk a) (hs : WfS σ) : AbsOk (wS a σ) := ⟨hs, h.2⟩
theorem cntF_up (f : Int → Int) {p v : Int} (hp : 1 ≤ p) (hv : v ≠ 0) : ∀ n : Nat, cntF (upF f p v) n = cntF f n + (if f p = 0 ∧ p ≤ n then 1 else 0)
  | 0 => by
    rw [if_neg (by omega)]
    rfl
  | n + 1 => by
    have ih := cntF_up f hp hv n
    show cntF (upF f p v) n + (if upF f p v ((n : Int) + 1) = 0 then 0 else 1) = cntF f n + (if f ((n : Int) + 1) = 0 then 0 else 1) + (if f p = 0 ∧ p ≤ ((n + 1 : Nat) : Int) then 1 else 0)
    rw [ih]
    by_cases hn : (n : Int) + 1 = p
    · have e : upF f p v ((n : Int) + 1) = v := if_pos hn
      rw [e, if_neg hv, hn, if_neg (show ¬ (f p = 0 ∧ p ≤ (n : Int)) by omega)]
      by_cases hf : f p = 0
      · rw [if_pos hf, if_pos ⟨hf, by omega⟩]
        try omega
      · rw [if_neg hf, if_neg (fun h => hf h.1)]
        try omega
    · have e : upF f p v ((n : Int) + 1) = f ((n : Int) + 1) := if_neg hn
      rw [e]
      by_cases hf : f p = 0 ∧ p ≤ (n : Int)
      · rw [if_pos hf, if_pos (show f p = 0 ∧ p ≤ ((n + 1 : Nat) : Int) from ⟨hf.1, by omega⟩)]
        omega
      · rw [if_neg hf, if_neg (show ¬ (f p = 0 ∧ p ≤ ((n + 1 : Nat) : Int)) by omega)]
        omega
theorem cntF_rm (f : Int → Int) {p : Int} (hp : 1 ≤ p) : ∀ n : Nat, cntF (upF f p 0) n = cntF f n - (if f p ≠ 0 ∧ p ≤ n then 1 else 0)
  | 0 => by
    rw [if_neg (by omega)]
    rfl
  | n + 1 => by
    have ih := cntF_rm f hp n
    show cntF (upF f p 0) n + (if upF f p 0 ((n : Int) + 1) = 0 then 0 else 1) = cntF f n + (if f ((n : Int) + 1) = 0 then 0 else 1) - (if f p ≠ 0 ∧ p ≤ ((n + 1 : Nat) : Int) then 1 else 0)
    rw [ih]
    by_cases hn : (n : Int) + 1 = p
    · have e : upF f p 0 ((n : Int) + 1) = 0 := if_pos hn
      rw [e, if_pos rfl, hn, if_neg (show ¬ (f p ≠ 0 ∧ p ≤ (n : Int)) by omega)]
      by_cases hf : f p = 0
      · rw [if_pos hf, if_neg (fun h => h.1 hf)]
        try omega
      · rw [if_neg hf, if_pos ⟨hf, by omega⟩]
        try omega
    · have e : upF f p 0 ((n : Int) + 1) = f ((n : Int) + 1) := if_neg hn
      rw [e]
      by_cases hf : f p ≠ 0 ∧ p ≤ (n : Int)
      · rw [if_pos hf, if_pos (show f p ≠ 0 ∧ p ≤ ((n + 1 : Nat) : Int) from ⟨hf.1, by omega⟩)]
        omega
      · rw [if_neg hf, if_neg (show ¬ (f p ≠ 0 ∧ p ≤ ((n + 1 : Nat) : Int)) by omega)]
        omega
theorem wf_setF {σ : CS} (h : WfS σ) {i : Nat} {g : Int → Int} (hg : SV g) (h8 : cntF g 80 ≤ 8) : WfS (setF σ i g) := by
  refine ⟨h.1, h.2.1, h.2.2.1, fun q hq => ?_, h.2.2.2.2⟩
  show WfY (upY σ.2.1 i _ q)
  unfold upY
  by_cases hqi : q = i
  · rw [if_pos hqi]
    have hy := h.2.2.2.1 i (by omega)
    exact ⟨hy.1, hy.2.1, hg, h8⟩
  · rw [if_neg hqi]
    exact h.2.2.2.1 q hq
theorem wf_setP {σ : CS} (h : WfS σ) {i : Nat} {y : YV} (hy : WfP y) : WfS (setP σ i y) := by
  refine ⟨h.1, h.2.1, h.2.2.1, h.2.2.2.1, fun q hq => ?_⟩
  show WfP (upY σ.2.2 i _ q)
  unfold upY
  by_cases hqi : q = i
  · rw [if_pos hqi]; exact hy
  · rw [if_neg hqi]; exact h.2.2.2.2 q hq
theorem SV_up {f : Int → Int} (h : SV f) {p v : Int} (hv : 0 ≤ v ∧ v ≤ 20) : SV (upF f p v) := by
  intro q h1 h2
  unfold upF
  by_cases hq : q = p
  · rw [if_pos hq]; exact hv
  · rw [if_neg hq]; exact h q h1 h2
/-- an error changes nothing; a success has saved the state -/
def OkC (a : AS) (fa : Int × AS) : Prop := (-1000 ≤ fa.1 ∧ fa.1 ≤ 1000) ∧ AbsOk fa.2 ∧ (fa.1 < 0 → fa.2 = a) ∧ (0 ≤ fa.1 → ∃ σ : CS, fa.2 = wS (psh a) σ)
theorem OkC.bad {a : AS} (h : AbsOk a) {z : Int} (hz : -1000 ≤ z ∧ z < 0) : OkC a (z, a) := ⟨⟨hz.1, by show z ≤ 1000; omega⟩, h, fun _ => rfl, fun h => by have h : 0 ≤ z := h; omega⟩
theorem OkC.good {a : AS} (h : AbsOk a) {z : Int} (hz : 0 ≤ z ∧ z ≤ 1000) {σ : CS} (hs : WfS σ) : OkC a (z, wS (psh a) σ) := ⟨⟨by show -1000 ≤ z; omega, hz.2⟩, h.psh.st hs, fun h => by have h : z < 0 := h; omega, fun _ => ⟨σ, rfl⟩⟩
theorem op_setNumber {a : AS} (h : AbsOk a) (wh v : Int) : OkC a (aSetNumber a wh v) := by
  have hW := h.1
  have hW1 := hW.1
  have hW2 := hW.2.1
  unfold aSetNumber
  by_cases h1 : wh = 0 ∧ 20 ≤ v ∧ v ≤ 80
  · rw [if_pos h1]
    exact OkC.good h (by omega) (σ := ((v, a.1.1.2), a.1.2)) ⟨h1.2, hW2, hW.2.2.1, hW.2.2.2⟩
  · rw [if_neg h1]
    by_cases h2 : wh = 1 ∧ 2 ≤ v ∧ v ≤ 20
    · rw [if_pos h2]
      exact OkC.good h (by omega) (σ := ((a.1.1.1, v, a.1.1.2.2), a.1.2)) ⟨hW1, h2.2, hW.2.2.1, hW.2.2.2⟩
    · rw [if_neg h2]
      exact OkC.bad h (by omega)
theorem wf_upY {σ : CS} (h : WfS σ) {i : Nat} {y : YV} (hy : WfY y) : ∀ q : Nat, q < 4 → WfY (upY σ.2.1 i y q) := by
  intro q hq
  unfold upY
  by_cases hqi : q = i
  · rw [if_pos hqi]; exact hy
  · rw [if_neg hqi]; exact h.2.2.2.1 q hq
theorem op_setIndent {a : AS} (h : AbsOk a) (s wh v : Int) : OkC a (aSetIndent a s wh v) := by
  have hW := h.1
  unfold aSetIndent
  by_cases h1 : (0 ≤ s ∧ s ≤ 3) ∧ (0 ≤ wh ∧ wh ≤ 1) ∧ (0 ≤ v ∧ v ≤ 19)
  · rw [if_pos h1]
    have hy := hW.2.2.2.1 s.toNat (by omega)
    by_cases h2 : wh = 0
    · rw [if_pos h2]
      exact OkC.good h (by have := hy.1; omega) (σ := (a.1.1, upY a.1.2.1 s.toNat (v, (a.1.2.1 s.toNat).2), a.1.2.2)) ⟨hW.1, hW.2.1, hW.2.2.1, wf_upY hW ⟨h1.2.2, hy.2⟩, hW.2.2.2.2⟩
    · rw [if_neg h2]
      exact OkC.good h (by have := hy.2.1; omega) (σ := (a.1.1, upY a.1.2.1 s.toNat ((a.1.2.1 s.toNat).1, v, (a.1.2.1 s.toNat).2.2), a.1.2.2)) ⟨hW.1, hW.2.1, hW.2.2.1, wf_upY hW ⟨hy.1, h1.2.2, hy.2.2⟩, hW.2.2.2.2⟩
  · rw [if_neg h1]
    exact OkC.bad h (by omega)
theorem op_setStop {a : AS} (h : AbsOk a) (s p kd le : Int) : OkC a (aSetStop a s p kd le) := by
  have hW := h.1
  unfold aSetStop
  by_cases h1 : (0 ≤ s ∧ s ≤ 3) ∧ (1 ≤ p ∧ p ≤ 80) ∧ (0 ≤ kd ∧ kd ≤ 4) ∧ (0 ≤ le ∧ le ≤ (if kd = 4 then 0 else 3))
  · rw [if_pos h1]
    have hy := hW.2.2.2.1 s.toNat (by omega)
    have hle : le ≤ 3 := by
      have h9 := h1.2.2.2.2
      split at h9 <;> omega
    have hle4 : kd = 4 → le ≤ 0 := fun q => by
      have h9 := h1.2.2.2.2
      rw [if_pos q] at h9
      exact h9
    by_cases h2 : (a.1.2.1 s.toNat).2.2 p = 0 ∧ 8 ≤ cntF (a.1.2.1 s.toNat).2.2 80
    · rw [if_pos h2]
      exact OkC.bad h (by omega)
    · rw [if_neg h2]
      have hb := cntF_bd (upF (a.1.2.1 s.toNat).2.2 p (1 + kd * 4 + le)) (p - 1).toNat
      have hu := cntF_up (a.1.2.1 s.toNat).2.2 (p := p) (v := 1 + kd * 4 + le) h1.2.1.1 (by omega) 80
      refine OkC.good h (by omega) (wf_setF hW (SV_up hy.2.2.1 (by omega)) ?_)
      rw [hu]
      have h8 := hy.2.2.2
      by_cases h3 : (a.1.2.1 s.toNat).2.2 p = 0 ∧ p ≤ ((80 : Nat) : Int)
      · rw [if_pos h3]
        omega
      · rw [if_neg h3]
        omega
  · rw [if_neg h1]
    exact OkC.bad h (by omega)
theorem posG_in (f : Int → Int) (k : Int) : ∀ n : Nat, posG f k n = -9 ∨ (1 ≤ posG f k n ∧ posG f k n ≤ n ∧ f (posG f k n) ≠ 0)
  | 0 => Or.inl rfl
  | n + 1 => by
    have ih := posG_in f k n
    show (if f ((n : Int) + 1) ≠ 0 ∧ cntF f n = k then (n : Int) + 1 else posG f k n) = -9 ∨ (1 ≤ (if f ((n : Int) + 1) ≠ 0 ∧ cntF f n = k then (n : Int) + 1 else posG f k n) ∧ (if f ((n : Int) + 1) ≠ 0 ∧ cntF f n = k then (n : Int) + 1 else posG f k n) ≤ ((n + 1 : Nat) : Int) ∧ f (if f ((n : Int) + 1) ≠ 0 ∧ cntF f n = k then (n : Int) + 1 else posG f k n) ≠ 0)
    by_cases h : f ((n : Int) + 1) ≠ 0 ∧ cntF f n = k
    · rw [if_pos h]
      exact Or.inr ⟨by omega, by omega, h.1⟩
    · rw [if_neg h]
      rcases ih with ih | ih
      · exact Or.inl ih
      · exact Or.inr ⟨ih.1, by omega, ih.2.2⟩
theorem op_removeStop {a : AS} (h : AbsOk a) (s k : Int) : OkC a (aRemoveStop a s k) := by
  have hW := h.1
  unfold aRemoveStop
  by_cases h1 : (0 ≤ s ∧ s ≤ 3) ∧ posF (a.1.2.1 s.toNat).2.2 k ≠ -9
  · rw [if_pos h1]
    have hy := hW.2.2.2.1 s.toNat (by omega)
    have hp : 1 ≤ posF (a.1.2.1 s.toNat).2.2 k := by
      rcases posG_in (a.1.2.1 s.toNat).2.2 k 80 with q | q
      · exact absurd q h1.2
      · exact q.1
    have hb := cntF_bd (upF (a.1.2.1 s.toNat).2.2 (posF (a.1.2.1 s.toNat).2.2 k) 0) 80
    have hu := cntF_rm (a.1.2.1 s.toNat).2.2 hp 80
    refine OkC.good h (by omega) (wf_setF hW (SV_up hy.2.2.1 (by omega)) ?_)
    rw [hu]
    have h8 := hy.2.2.2
    split <;> omega
  · rw [if_neg h1]
    exact OkC.bad h (by omega)
theorem op_addPar {a : AS} (h : AbsOk a) (s : Int) : OkC a (aAddPar a s) := by
  have hW := h.1
  have hc := hW.2.2.1
  unfold aAddPar
  by_cases h1 : 0 ≤ s ∧ s ≤ 3
  · rw [if_pos h1]
    by_cases h2 : 8 ≤ a.1.1.2.2
    · rw [if_pos h2]
      exact OkC.bad h (by omega)
    · rw [if_neg h2]
      refine OkC.good h (by omega) (σ := ((a.1.1.1, a.1.1.2.1, a.1.1.2.2 + 1), a.1.2.1, upY a.1.2.2 a.1.1.2.2.toNat (s, 0, (a.1.2.2 a.1.1.2.2.toNat).2.2))) ⟨hW.1, hW.2.1, by show 0 ≤ a.1.1.2.2 + 1 ∧ a.1.1.2.2 + 1 ≤ 8; omega, hW.2.2.2.1, fun i hi => ?_⟩
      have hi : (i : Int) < a.1.1.2.2 + 1 := hi
      show WfP (upY a.1.2.2 a.1.1.2.2.toNat _ i)
      unfold upY
      by_cases hic : i = a.1.1.2.2.toNat
      · rw [if_pos hic]
        exact ⟨by show 0 ≤ s ∧ s ≤ 3; omega, by show (0 : Int) ≤ 0 ∧ (0 : Int) ≤ 80; omega, fun j h1 h2 => by have h2 : j < 0 := h2; omega⟩
      · rw [if_neg hic]
        exact hW.2.2.2.2 i (by omega)
  · rw [if_neg h1]
    exact OkC.bad h (by omega)
theorem op_remPar {a : AS} (h : AbsOk a) (p : Int) : OkC a (aRemPar a p) := by
  have hW := h.1
  have hc := hW.2.2.1
  unfold aRemPar
  by_cases h1 : 0 ≤ p ∧ p ≤ a.1.1.2.2 - 1
  · rw [if_pos h1]
    refine OkC.good h (by omega) (σ := ((a.1.1.1, a.1.1.2.1, a.1.1.2.2 - 1), a.1.2.1, rmF a.1.2.2 p.toNat (a.1.1.2.2 - 1).toNat)) ⟨hW.1, hW.2.1, by show 0 ≤ a.1.1.2.2 - 1 ∧ a.1.1.2.2 - 1 ≤ 8; omega, hW.2.2.2.1, fun i hi => ?_⟩
    have hi : (i : Int) < a.1.1.2.2 - 1 := hi
    show WfP (rmF a.1.2.2 p.toNat (a.1.1.2.2 - 1).toNat i)
    obtain ⟨q, hq, hq2, hq3⟩ := rmF_pick (p := p.toNat) (c := (a.1.1.2.2 - 1).toNat) (i := i) (by omega) (by omega) (by omega)
    rw [hq2]
    exact hW.2.2.2.2 q (by omega)
  · rw [if_neg h1]
    exact OkC.bad h (by omega)
theorem op_setStyle {a : AS} (h : AbsOk a) (p s : Int) : OkC a (aSetStyle a p s) := by
  have hW := h.1
  unfold aSetStyle
  by_cases h1 : (0 ≤ p ∧ p ≤ a.1.1.2.2 - 1) ∧ (0 ≤ s ∧ s ≤ 3)
  · rw [if_pos h1]
    have hp := hW.2.2.2.2 p.toNat (by omega)
    exact OkC.good h (by have := hp.1; omega) (wf_setP hW ⟨h1.2, hp.2⟩)
  · rw [if_neg h1]
    exact OkC.bad h (by omega)
theorem op_addWord {a : AS} (h : AbsOk a) (p t l L : Int) : OkC a (aAddWord a p t l L) := by
  have hW := h.1
  unfold aAddWord
  by_cases h1 : (0 ≤ p ∧ p ≤ a.1.1.2.2 - 1) ∧ (0 ≤ t ∧ t ≤ 1) ∧ (0 ≤ l ∧ l ≤ 25) ∧ (1 ≤ L ∧ L ≤ 30)
  · rw [if_pos h1]
    have hp := hW.2.2.2.2 p.toNat (by omega)
    have hl := hp.2.1
    by_cases h2 : 80 < (a.1.2.2 p.toNat).2.1 + 1 + L
    · rw [if_pos h2]
      exact OkC.bad h (by omega)
    · rw [if_neg h2]
      refine OkC.good h (by omega) (wf_setP hW ⟨hp.1, by show 0 ≤ (a.1.2.2 p.toNat).2.1 + 1 + L ∧ (a.1.2.2 p.toNat).2.1 + 1 + L ≤ 80; omega, fun j j1 j2 => ?_⟩)
      have j2 : j < (a.1.2.2 p.toNat).2.1 + 1 + L := j2
      show okc (wordF (a.1.2.2 p.toNat).2.2 (a.1.2.2 p.toNat).2.1 (if t = 1 then 9 else 32) (97 + l) L j)
      unfold wordF
      by_cases h3 : j = (a.1.2.2 p.toNat).2.1
      · rw [if_pos h3]
        unfold okc
        split <;> omega
      · rw [if_neg h3]
        by_cases h4 : (a.1.2.2 p.toNat).2.1 < j ∧ j ≤ (a.1.2.2 p.toNat).2.1 + L
        · rw [if_pos h4]
          unfold okc
          omega
        · rw [if_neg h4]
          exact hp.2.2 j j1 (by omega)
  · rw [if_neg h1]
    exact OkC.bad h (by omega)
theorem dig_bd (w i : Int) : 0 ≤ dig w i ∧ dig w i ≤ 9 := by
  unfold dig
  repeat' split
  all_goals omega
theorem dgt_bd (w : Int) : 1 ≤ dgt w ∧ dgt w ≤ 5 := by
  unfold dgt
  repeat' split
  all_goals omega
theorem op_addAmount {a : AS} (h : AbsOk a) (p hh : Int) : OkC a (aAddAmount a p hh) := by
  have hW := h.1
  have hd := dgt_bd (hh / 100)
  unfold aAddAmount
  by_cases h1 : (0 ≤ p ∧ p ≤ a.1.1.2.2 - 1) ∧ (0 ≤ hh ∧ hh ≤ 9999999)
  · rw [if_pos h1]
    have hp := hW.2.2.2.2 p.toNat (by omega)
    have hl := hp.2.1
    by_cases h2 : 80 < (a.1.2.2 p.toNat).2.1 + 4 + dgt (hh / 100)
    · rw [if_pos h2]
      exact OkC.bad h (by omega)
    · rw [if_neg h2]
      refine OkC.good h (by omega) (wf_setP hW ⟨hp.1, by show 0 ≤ (a.1.2.2 p.toNat).2.1 + 4 + dgt (hh / 100) ∧ (a.1.2.2 p.toNat).2.1 + 4 + dgt (hh / 100) ≤ 80; omega, fun j j1 j2 => ?_⟩)
      have j2 : j < (a.1.2.2 p.toNat).2.1 + 4 + dgt (hh / 100) := j2
      show okc (amtF (a.1.2.2 p.toNat).2.2 (a.1.2.2 p.toNat).2.1 hh j)
      unfold amtF
      by_cases h3 : j = (a.1.2.2 p.toNat).2.1
      · rw [if_pos h3]
        unfold okc
        omega
      · rw [if_neg h3]
        by_cases h4 : (a.1.2.2 p.toNat).2.1 < j ∧ j ≤ (a.1.2.2 p.toNat).2.1 + dgt (hh / 100)
        · rw [if_pos h4]
          have h9 := dig_bd (hh / 100) (dgt (hh / 100) - (j - (a.1.2.2 p.toNat).2.1))
          unfold okc
          omega
        · rw [if_neg h4]
          by_cases h5 : j = (a.1.2.2 p.toNat).2.1 + dgt (hh / 100) + 1
          · rw [if_pos h5]
            unfold okc
            omega
          · rw [if_neg h5]
            by_cases h6 : j = (a.1.2.2 p.toNat).2.1 + dgt (hh / 100) + 2
            · rw [if_pos h6]
              unfold okc
              omega
            · rw [if_neg h6]
              by_cases h7 : j = (a.1.2.2 p.toNat).2.1 + dgt (hh / 100) + 3
              · rw [if_pos h7]
                unfold okc
                omega
              · rw [if_neg h7]
                exact hp.2.2 j j1 (by omega)
  · rw [if_neg h1]
    exact OkC.bad h (by omega)
/-! undo gives back what was saved -/
theorem AbsOk.undo {a : AS} (h : AbsOk a) : AbsOk (aUndo a).2 := by
  unfold aUndo
  by_cases h0 : a.2.1 = 0
  · rw [if_pos h0]; exact h
  · rw [if_neg h0]
    refine ⟨h.2.2.1 (a.2.1 - 1) (by omega), ?_, fun j hj => ?_, h.2.2.2⟩
    · show a.2.1 - 1 ≤ 6
      have := h.2.1
      omega
    · have hj : j < a.2.1 - 1 := hj
      exact h.2.2.1 j (by omega)
theorem undo_back {a : AS} (h : AbsOk a) (σ : CS) : (aUndo (wS (psh a) σ)).1 = (nS a.2.1 : Int) - 1 ∧ (aUndo (wS (psh a) σ)).2.1 = a.1 ∧ (aUndo (wS (psh a) σ)).2.2.1 = nS a.2.1 - 1 := by
  have h6 := h.2.1
  have hn : (wS (psh a) σ).2.1 = nS a.2.1 := rfl
  have hn0 : nS a.2.1 ≠ 0 := by
    unfold nS
    split <;> omega
  unfold aUndo
  rw [hn, if_neg hn0]
  refine ⟨rfl, ?_, rfl⟩
  show pushS a.2.2.1 a.2.1 a.1 (nS a.2.1 - 1) = a.1
  unfold pushS nS
  by_cases h9 : a.2.1 = 6
  · rw [if_pos h9, if_pos h9]
    rfl
  · rw [if_neg h9, if_neg h9]
    exact if_pos (by omega)
