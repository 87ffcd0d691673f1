/-! the other object's calls -/
theorem wf_setF {σ : CS} (h : WfS σ) {i : Nat} {g : Int → Int} (hg : SV g) (h8 : cntF g 80 ≤ 8) : WfS (setF σ i g) := by
  refine ⟨h.1, h.2.1, h.2.2.1, fun q hq => ?_, h.2.2.2.2⟩
  show WfY (upY σ.2.1 i _ q)
  unfold upY
  by_cases hqi : q = i
  · rw [if_pos hqi]
    have hy := h.2.2.2.1 i (by omega)
    exact ⟨hy.1, hy.2.1, hg, h8⟩
  · rw [if_neg hqi]
    exact h.2.2.2.1 q hq
theorem wf_setP {σ : CS} (h : WfS σ) {i : Nat} {y : YV} (hy : WfP y) : WfS (setP σ i y) := by
  refine ⟨h.1, h.2.1, h.2.2.1, h.2.2.2.1, fun q hq => ?_⟩
  show WfP (upY σ.2.2 i _ q)
  unfold upY
  by_cases hqi : q = i
  · rw [if_pos hqi]; exact hy
  · rw [if_neg hqi]; exact h.2.2.2.2 q hq
theorem MI.sty {I I1 : Mem} {a : AS} (h : MI I a) {s : Int} (hs : 0 ≤ s ∧ s ≤ 3) {g : Int → Int} (hg : SV g) (h8 : cntF g 80 ≤ 8) (hY : MY (fun j => I1 291 (3 + 27 * s + j)) ((a.1.2.1 s.toNat).1, (a.1.2.1 s.toNat).2.1, g)) (hk : ∀ (x : Nat) (q : Int), ¬ (x = 291 ∧ 3 + 27 * s + 2 ≤ q ∧ q < 3 + 27 * s + 27) → I1 x q = I x q) : MI I1 (wS a (setF a.1 s.toNat g)) := by
  have hS := h.2.1
  have hW := h.1.1
  refine h.st (wf_setF hW hg h8) ⟨(hk _ _ (by omega)).trans hS.1, (hk _ _ (by omega)).trans hS.2.1, (hk _ _ (by omega)).trans hS.2.2.1, fun i h1 h2 => ?_, fun i h1 h2 => ?_⟩ (fun x j hx => hk x j (by omega))
  · show MY _ (upY a.1.2.1 s.toNat _ i.toNat)
    unfold upY
    by_cases hi : i = s
    · rw [if_pos (by omega), hi]
      exact hY
    · rw [if_neg (by omega)]
      exact (hS.2.2.2.1 i h1 h2).congr (hW.2.2.2.1 i.toNat (by omega)).2.2.2 (fun j q1 q2 => hk _ _ (by omega))
  · have h2 : i < a.1.1.2.2 := h2
    have hc := hW.2.2.1
    exact (hS.2.2.2.2 i h1 h2).congr (hW.2.2.2.2 i.toNat (by omega)).2.1.2 (fun j q1 q2 => hk _ _ (by omega))
theorem MI.par {I I1 : Mem} {a : AS} (h : MI I a) {p : Int} (hp : 0 ≤ p ∧ p ≤ a.1.1.2.2 - 1) {y : YV} (hy : WfP y) (hP : MP (fun j => I1 291 (111 + 82 * p + j)) y) (hk : ∀ (x : Nat) (q : Int), ¬ (x = 291 ∧ 111 + 82 * p ≤ q ∧ q < 111 + 82 * p + 82) → I1 x q = I x q) : MI I1 (wS a (setP a.1 p.toNat y)) := by
  have hS := h.2.1
  have hW := h.1.1
  have hc := hW.2.2.1
  refine h.st (wf_setP hW hy) ⟨(hk _ _ (by omega)).trans hS.1, (hk _ _ (by omega)).trans hS.2.1, (hk _ _ (by omega)).trans hS.2.2.1, fun i h1 h2 => ?_, fun i h1 h2 => ?_⟩ (fun x j hx => hk x j (by omega))
  · exact (hS.2.2.2.1 i h1 h2).congr (hW.2.2.2.1 i.toNat (by omega)).2.2.2 (fun j q1 q2 => hk _ _ (by omega))
  · have h2 : i < a.1.1.2.2 := h2
    show MP _ (upY a.1.2.2 p.toNat _ i.toNat)
    unfold upY
    by_cases hi : i = p
    · rw [if_pos (by omega), hi]
      exact hP
    · rw [if_neg (by omega)]
      exact (hS.2.2.2.2 i h1 h2).congr (hW.2.2.2.2 i.toNat (by omega)).2.1.2 (fun j q1 q2 => hk _ _ (by omega))
theorem SV_up {f : Int → Int} (h : SV f) {p v : Int} (hv : 0 ≤ v ∧ v ≤ 20) : SV (upF f p v) := by
  intro q h1 h2
  unfold upF
  by_cases hq : q = p
  · rw [if_pos hq]; exact hv
  · rw [if_neg hq]; exact h q h1 h2
theorem bm_in (c : Int) : -128 ≤ c.bmod 256 ∧ c.bmod 256 ≤ 127 := by
  have h1 := Int.bmod_lt (x := c) (m := 256) (by omega)
  have h2 := Int.le_bmod (x := c) (m := 256) (by omega)
  omega
theorem posF_in {f : Int → Int} {k : Int} (h : 0 ≤ k ∧ k < cntF f 80) : StpF f (posF f k) ∧ cntF f (posF f k - 1).toNat = k := by
  obtain ⟨q, h1, -, h3⟩ := cnt_surj 80 (Nat.le_refl _) h.1 h.2
  have h4 : posF f k = q := posG_spec ⟨h1, h3⟩ 80 (by have := h1.2.1; omega)
  rw [h4]
  exact ⟨h1, h3⟩
theorem posF_out {f : Int → Int} {k : Int} (h : ¬ (0 ≤ k ∧ k < cntF f 80)) : posF f k = -9 := by
  refine posG_none (fun p hp => ?_) 80 (Nat.le_refl _)
  have h1 := cnt_lt hp
  have h2 := (cntF_bd f (p - 1).toNat).1
  omega
set_option maxHeartbeats 4000000 in
set_option maxRecDepth 100000 in
theorem m_setStop (I : Mem) (R : RMem) (hRO : RefOk R) (a : AS) (hM : MI I a) (s : Int) (hs : -2147483648 ≤ s ∧ s ≤ 2147483647) (p : Int) (hp : -2147483648 ≤ p ∧ p ≤ 2147483647) (kd : Int) (hkd : -2147483648 ≤ kd ∧ kd ≤ 2147483647) (le : Int) (hle : -2147483648 ≤ le ∧ le ≤ 2147483647) : CC 5 0 0 yX8_setStop cX8_setStop 5 (some .int) [.inr (some 290), .inl (s), .inl (p), .inl (kd), .inl (le)] (298, ShF, I, R) (PM (aSetStop a s p kd le) I R) := by
  have hA := hM.1
  have hW := hA.1
  have hW1 := hW.1
  have hW2 := hW.2.1
  have hW3 := hW.2.2.1
  have hS := hM.2.1
  refine CC_of (own := RX8) (ini := false) (by decide +kernel) rfl (fun h => absurd h (by decide)) (Nat.le_of_ble_eq_true rfl) ?_
  show WW cX8_setStop RX8 5 (some .int) false 5 0 0 (PM (aSetStop a s p kd le) I R) 0 0 0 [some (.inr (some 290)), some (.inl (s)), some (.inl (p)), some (.inl (kd)), some (.inl (le))] [] (298, ShF, I, R)
  refine r_iload_n dX8_setStop_0 rfl ?_
  refine q_callSF lk_X8_50 dX8_setStop_1 (m_isStyle I R s hs) (by decide) rfl rfl (Nat.le_of_ble_eq_true rfl) (by decide) ?_
  refine q_ifeqB (tgt := 45) dX8_setStop_4 (by decide) (fun h4 => ?_) (fun h4 => ?_)
  · refine r_iconst dX8_setStop_45 ?_
    refine q_iretZ dX8_setStop_46 rfl ?_
    have e : aSetStop a s p kd le = (-1, a) := by
      unfold aSetStop
      rw [if_neg (by split <;> omega)]
    rw [e]
    exact ⟨rfl, hM, fun _ _ _ => rfl⟩
  · refine r_iload_n dX8_setStop_7 rfl ?_
    refine r_iconst dX8_setStop_8 ?_
    refine r_bipush dX8_setStop_9 (by decide) ?_
    refine q_callSF lk_X8_36 dX8_setStop_11 (c_in I R p 1 80 hp (by decide) (by decide)) (by decide) rfl rfl (Nat.le_of_ble_eq_true rfl) (by decide) ?_
    refine q_ifeqB (tgt := 45) dX8_setStop_14 (by decide) (fun h14 => ?_) (fun h14 => ?_)
    · refine r_iconst dX8_setStop_45 ?_
      refine q_iretZ dX8_setStop_46 rfl ?_
      have e : aSetStop a s p kd le = (-1, a) := by
        unfold aSetStop
        rw [if_neg (by split <;> omega)]
      rw [e]
      exact ⟨rfl, hM, fun _ _ _ => rfl⟩
    · refine r_iload_n dX8_setStop_17 rfl ?_
      refine r_iconst dX8_setStop_18 ?_
      refine r_iconst dX8_setStop_19 ?_
      refine q_callSF lk_X8_36 dX8_setStop_20 (c_in I R kd 0 4 hkd (by decide) (by decide)) (by decide) rfl rfl (Nat.le_of_ble_eq_true rfl) (by decide) ?_
      refine q_ifeqB (tgt := 45) dX8_setStop_23 (by decide) (fun h23 => ?_) (fun h23 => ?_)
      · refine r_iconst dX8_setStop_45 ?_
        refine q_iretZ dX8_setStop_46 rfl ?_
        have e : aSetStop a s p kd le = (-1, a) := by
          unfold aSetStop
          rw [if_neg (by split <;> omega)]
        rw [e]
        exact ⟨rfl, hM, fun _ _ _ => rfl⟩
      · refine r_iload dX8_setStop_26 rfl ?_
        refine r_iconst dX8_setStop_28 ?_
        refine r_iload_n dX8_setStop_29 rfl ?_
        refine r_iconst dX8_setStop_30 ?_
        refine r_icmpne (tgt := 38) dX8_setStop_31 (by decide) (by omega) (by omega) (fun h31 => ?_) (fun h31 => ?_)
        · refine r_iconst dX8_setStop_38 ?_
          refine q_callSF lk_X8_36 dX8_setStop_39 (c_in I R le 0 _ hle (by decide) (by decide)) (by decide) rfl rfl (Nat.le_of_ble_eq_true rfl) (by decide) ?_
          refine q_ifneB (tgt := 47) dX8_setStop_42 (by decide) (fun h42 => ?_) (fun h42 => ?_)
          · have hYs := hS.2.2.2.1 s (by omega) (by omega)
            have hwy := hW.2.2.2.1 s.toNat (by omega)
            have hcb := cntF_bd (a.1.2.1 s.toNat).2.2 80
            have h8 := hwy.2.2.2
            have hY2 : I 291 (3 + 27 * s + 2) = cntF (a.1.2.1 s.toNat).2.2 80 := hYs.2.2.1
            refine r_aload_n dX8_setStop_47 rfl ?_
            refine r_iload_n dX8_setStop_48 rfl ?_
            refine r_iconst dX8_setStop_49 ?_
            refine q_callVF lk_X8_44 dX8_setStop_50 (m_of I R hRO s 2 (by omega)) (by decide) sf_290 rfl rfl (Nat.le_of_ble_eq_true rfl) (by decide) ?_
            rw [hY2]
            refine r_bipush dX8_setStop_53 (by decide) ?_
            refine r_icmpne (tgt := 70) dX8_setStop_55 (by decide) (by omega) (by omega) (fun h55 => ?_) (fun h55 => ?_)
            · refine r_aload_n dX8_setStop_70 rfl ?_
              refine q_callVW lk_X8_47 dX8_setStop_71 (m_notes I R hRO a hM) (by decide) sf_290 rfl rfl (Nat.le_of_ble_eq_true rfl) (by decide) (fun I1 hnt => ?_)
              obtain ⟨hM1, hk1⟩ := hnt
              have hS1 : AtM (I1 291) a.1 := hM1.2.1
              have hYs1 := hS1.2.2.2.1 s (by omega) (by omega)
              refine r_aload_n dX8_setStop_74 rfl ?_
              refine r_iload_n dX8_setStop_75 rfl ?_
              refine r_iload_n dX8_setStop_76 rfl ?_
              refine r_iload_n dX8_setStop_77 rfl ?_
              refine r_iload dX8_setStop_78 rfl ?_
              refine q_callVZ lk_X8_62 dX8_setStop_80 (m_puts I1 R hRO s (by omega) (a.1.2.1 s.toNat) hYs1 hwy.2.2.2 p kd le (by omega) (by omega) (by omega) (by omega)) (by decide) sf_290 rfl rfl (Nat.le_of_ble_eq_true rfl) (by decide) (fun z I2 hz => ?_)
              refine q_iretZ dX8_setStop_83 rfl ?_
              have e : aSetStop a s p kd le = (cntF (upF (a.1.2.1 s.toNat).2.2 p (1 + kd * 4 + le)) (p - 1).toNat, wS (psh a) (setF a.1 s.toNat (upF (a.1.2.1 s.toNat).2.2 p (1 + kd * 4 + le)))) := by
                unfold aSetStop
                rw [if_pos (by split <;> omega), if_neg (by omega)]
              rw [e]
              have hup := fun n : Nat => cntF_up (a.1.2.1 s.toNat).2.2 (p := p) (v := 1 + kd * 4 + le) (by omega) (by omega) n
              have h80 := hup 80
              refine ⟨?_, hM1.sty (by omega) (SV_up hwy.2.2.1 (by omega)) (by rw [h80]; split <;> omega) hz.2.1 hz.2.2, fun x j h => by rw [hz.2.2 _ _ (by omega)]; exact hk1 x j (by omega) (by omega)⟩
              rw [hz.1, hup, if_neg (by omega), Int.add_zero]
            · refine r_aload_n dX8_setStop_58 rfl ?_
              refine r_iload_n dX8_setStop_59 rfl ?_
              refine r_iload_n dX8_setStop_60 rfl ?_
              refine q_callVF lk_X8_58 dX8_setStop_61 (m_hasStop I R hRO s (by omega) (a.1.2.1 s.toNat) hYs hwy.2.2.2 p (by omega)) (by decide) sf_290 rfl rfl (Nat.le_of_ble_eq_true rfl) (by decide) ?_
              refine q_ifneB (tgt := 70) dX8_setStop_64 (by decide) (fun h64 => ?_) (fun h64 => ?_)
              · refine r_aload_n dX8_setStop_70 rfl ?_
                refine q_callVW lk_X8_47 dX8_setStop_71 (m_notes I R hRO a hM) (by decide) sf_290 rfl rfl (Nat.le_of_ble_eq_true rfl) (by decide) (fun I1 hnt => ?_)
                obtain ⟨hM1, hk1⟩ := hnt
                have hS1 : AtM (I1 291) a.1 := hM1.2.1
                have hYs1 := hS1.2.2.2.1 s (by omega) (by omega)
                refine r_aload_n dX8_setStop_74 rfl ?_
                refine r_iload_n dX8_setStop_75 rfl ?_
                refine r_iload_n dX8_setStop_76 rfl ?_
                refine r_iload_n dX8_setStop_77 rfl ?_
                refine r_iload dX8_setStop_78 rfl ?_
                refine q_callVZ lk_X8_62 dX8_setStop_80 (m_puts I1 R hRO s (by omega) (a.1.2.1 s.toNat) hYs1 hwy.2.2.2 p kd le (by omega) (by omega) (by omega) (by omega)) (by decide) sf_290 rfl rfl (Nat.le_of_ble_eq_true rfl) (by decide) (fun z I2 hz => ?_)
                refine q_iretZ dX8_setStop_83 rfl ?_
                have e : aSetStop a s p kd le = (cntF (upF (a.1.2.1 s.toNat).2.2 p (1 + kd * 4 + le)) (p - 1).toNat, wS (psh a) (setF a.1 s.toNat (upF (a.1.2.1 s.toNat).2.2 p (1 + kd * 4 + le)))) := by
                  unfold aSetStop
                  rw [if_pos (by split <;> omega), if_neg (by omega)]
                rw [e]
                have hup := fun n : Nat => cntF_up (a.1.2.1 s.toNat).2.2 (p := p) (v := 1 + kd * 4 + le) (by omega) (by omega) n
                have h80 := hup 80
                refine ⟨?_, hM1.sty (by omega) (SV_up hwy.2.2.1 (by omega)) (by rw [h80]; split <;> omega) hz.2.1 hz.2.2, fun x j h => by rw [hz.2.2 _ _ (by omega)]; exact hk1 x j (by omega) (by omega)⟩
                rw [hz.1, hup, if_neg (by omega), Int.add_zero]
              · refine r_bipush dX8_setStop_67 (by decide) ?_
                refine q_iretZ dX8_setStop_69 rfl ?_
                have e : aSetStop a s p kd le = (-3, a) := by
                  unfold aSetStop
                  rw [if_pos (by split <;> omega), if_pos (by omega)]
                rw [e]
                exact ⟨rfl, hM, fun _ _ _ => rfl⟩
          · refine r_iconst dX8_setStop_45 ?_
            refine q_iretZ dX8_setStop_46 rfl ?_
            have e : aSetStop a s p kd le = (-1, a) := by
              unfold aSetStop
              rw [if_neg (by split <;> omega)]
            rw [e]
            exact ⟨rfl, hM, fun _ _ _ => rfl⟩
        · refine r_iconst dX8_setStop_34 ?_
          refine r_goto (tgt := 39) dX8_setStop_35 (by decide) ?_
          refine q_callSF lk_X8_36 dX8_setStop_39 (c_in I R le 0 _ hle (by decide) (by decide)) (by decide) rfl rfl (Nat.le_of_ble_eq_true rfl) (by decide) ?_
          refine q_ifneB (tgt := 47) dX8_setStop_42 (by decide) (fun h42 => ?_) (fun h42 => ?_)
          · have hYs := hS.2.2.2.1 s (by omega) (by omega)
            have hwy := hW.2.2.2.1 s.toNat (by omega)
            have hcb := cntF_bd (a.1.2.1 s.toNat).2.2 80
            have h8 := hwy.2.2.2
            have hY2 : I 291 (3 + 27 * s + 2) = cntF (a.1.2.1 s.toNat).2.2 80 := hYs.2.2.1
            refine r_aload_n dX8_setStop_47 rfl ?_
            refine r_iload_n dX8_setStop_48 rfl ?_
            refine r_iconst dX8_setStop_49 ?_
            refine q_callVF lk_X8_44 dX8_setStop_50 (m_of I R hRO s 2 (by omega)) (by decide) sf_290 rfl rfl (Nat.le_of_ble_eq_true rfl) (by decide) ?_
            rw [hY2]
            refine r_bipush dX8_setStop_53 (by decide) ?_
            refine r_icmpne (tgt := 70) dX8_setStop_55 (by decide) (by omega) (by omega) (fun h55 => ?_) (fun h55 => ?_)
            · refine r_aload_n dX8_setStop_70 rfl ?_
              refine q_callVW lk_X8_47 dX8_setStop_71 (m_notes I R hRO a hM) (by decide) sf_290 rfl rfl (Nat.le_of_ble_eq_true rfl) (by decide) (fun I1 hnt => ?_)
              obtain ⟨hM1, hk1⟩ := hnt
              have hS1 : AtM (I1 291) a.1 := hM1.2.1
              have hYs1 := hS1.2.2.2.1 s (by omega) (by omega)
              refine r_aload_n dX8_setStop_74 rfl ?_
              refine r_iload_n dX8_setStop_75 rfl ?_
              refine r_iload_n dX8_setStop_76 rfl ?_
              refine r_iload_n dX8_setStop_77 rfl ?_
              refine r_iload dX8_setStop_78 rfl ?_
              refine q_callVZ lk_X8_62 dX8_setStop_80 (m_puts I1 R hRO s (by omega) (a.1.2.1 s.toNat) hYs1 hwy.2.2.2 p kd le (by omega) (by omega) (by omega) (by omega)) (by decide) sf_290 rfl rfl (Nat.le_of_ble_eq_true rfl) (by decide) (fun z I2 hz => ?_)
              refine q_iretZ dX8_setStop_83 rfl ?_
              have e : aSetStop a s p kd le = (cntF (upF (a.1.2.1 s.toNat).2.2 p (1 + kd * 4 + le)) (p - 1).toNat, wS (psh a) (setF a.1 s.toNat (upF (a.1.2.1 s.toNat).2.2 p (1 + kd * 4 + le)))) := by
                unfold aSetStop
                rw [if_pos (by split <;> omega), if_neg (by omega)]
              rw [e]
              have hup := fun n : Nat => cntF_up (a.1.2.1 s.toNat).2.2 (p := p) (v := 1 + kd * 4 + le) (by omega) (by omega) n
              have h80 := hup 80
              refine ⟨?_, hM1.sty (by omega) (SV_up hwy.2.2.1 (by omega)) (by rw [h80]; split <;> omega) hz.2.1 hz.2.2, fun x j h => by rw [hz.2.2 _ _ (by omega)]; exact hk1 x j (by omega) (by omega)⟩
              rw [hz.1, hup, if_neg (by omega), Int.add_zero]
            · refine r_aload_n dX8_setStop_58 rfl ?_
              refine r_iload_n dX8_setStop_59 rfl ?_
              refine r_iload_n dX8_setStop_60 rfl ?_
              refine q_callVF lk_X8_58 dX8_setStop_61 (m_hasStop I R hRO s (by omega) (a.1.2.1 s.toNat) hYs hwy.2.2.2 p (by omega)) (by decide) sf_290 rfl rfl (Nat.le_of_ble_eq_true rfl) (by decide) ?_
              refine q_ifneB (tgt := 70) dX8_setStop_64 (by decide) (fun h64 => ?_) (fun h64 => ?_)
              · refine r_aload_n dX8_setStop_70 rfl ?_
                refine q_callVW lk_X8_47 dX8_setStop_71 (m_notes I R hRO a hM) (by decide) sf_290 rfl rfl (Nat.le_of_ble_eq_true rfl) (by decide) (fun I1 hnt => ?_)
                obtain ⟨hM1, hk1⟩ := hnt
                have hS1 : AtM (I1 291) a.1 := hM1.2.1
                have hYs1 := hS1.2.2.2.1 s (by omega) (by omega)
                refine r_aload_n dX8_setStop_74 rfl ?_
                refine r_iload_n dX8_setStop_75 rfl ?_
                refine r_iload_n dX8_setStop_76 rfl ?_
                refine r_iload_n dX8_setStop_77 rfl ?_
                refine r_iload dX8_setStop_78 rfl ?_
                refine q_callVZ lk_X8_62 dX8_setStop_80 (m_puts I1 R hRO s (by omega) (a.1.2.1 s.toNat) hYs1 hwy.2.2.2 p kd le (by omega) (by omega) (by omega) (by omega)) (by decide) sf_290 rfl rfl (Nat.le_of_ble_eq_true rfl) (by decide) (fun z I2 hz => ?_)
                refine q_iretZ dX8_setStop_83 rfl ?_
                have e : aSetStop a s p kd le = (cntF (upF (a.1.2.1 s.toNat).2.2 p (1 + kd * 4 + le)) (p - 1).toNat, wS (psh a) (setF a.1 s.toNat (upF (a.1.2.1 s.toNat).2.2 p (1 + kd * 4 + le)))) := by
                  unfold aSetStop
                  rw [if_pos (by split <;> omega), if_neg (by omega)]
                rw [e]
                have hup := fun n : Nat => cntF_up (a.1.2.1 s.toNat).2.2 (p := p) (v := 1 + kd * 4 + le) (by omega) (by omega) n
                have h80 := hup 80
                refine ⟨?_, hM1.sty (by omega) (SV_up hwy.2.2.1 (by omega)) (by rw [h80]; split <;> omega) hz.2.1 hz.2.2, fun x j h => by rw [hz.2.2 _ _ (by omega)]; exact hk1 x j (by omega) (by omega)⟩
                rw [hz.1, hup, if_neg (by omega), Int.add_zero]
              · refine r_bipush dX8_setStop_67 (by decide) ?_
                refine q_iretZ dX8_setStop_69 rfl ?_
                have e : aSetStop a s p kd le = (-3, a) := by
                  unfold aSetStop
                  rw [if_pos (by split <;> omega), if_pos (by omega)]
                rw [e]
                exact ⟨rfl, hM, fun _ _ _ => rfl⟩
          · refine r_iconst dX8_setStop_45 ?_
            refine q_iretZ dX8_setStop_46 rfl ?_
            have e : aSetStop a s p kd le = (-1, a) := by
              unfold aSetStop
              rw [if_neg (by split <;> omega)]
            rw [e]
            exact ⟨rfl, hM, fun _ _ _ => rfl⟩
set_option maxHeartbeats 4000000 in
set_option maxRecDepth 100000 in
theorem m_removeStop (I : Mem) (R : RMem) (hRO : RefOk R) (a : AS) (hM : MI I a) (s : Int) (hs : -2147483648 ≤ s ∧ s ≤ 2147483647) (k : Int) (hk : -2147483648 ≤ k ∧ k ≤ 2147483647) : CC 5 0 0 yX8_removeStop cX8_removeStop 4 (some .int) [.inr (some 290), .inl (s), .inl (k)] (298, ShF, I, R) (PM (aRemoveStop a s k) I R) := by
  have hA := hM.1
  have hW := hA.1
  have hW1 := hW.1
  have hW2 := hW.2.1
  have hW3 := hW.2.2.1
  have hS := hM.2.1
  have hloop : (0 ≤ s ∧ s ≤ 3) → (0 ≤ k ∧ k < cntF (a.1.2.1 s.toNat).2.2 80) → ∀ (I1 : Mem), MI I1 (psh a) → (∀ (x : Nat) (j : Int), x ≠ 292 → ¬ (x = 290 ∧ j = 2) → I1 x j = I x j) → ∀ (n : Nat) (q : Int) (I2 : Mem), 3 * cntF (a.1.2.1 s.toNat).2.2 80 < q + n + 3 → 3 * k ≤ q → q ≤ 3 * cntF (a.1.2.1 s.toNat).2.2 80 - 3 → I2 291 (3 + 27 * s + 2) = cntF (a.1.2.1 s.toNat).2.2 80 - 1 → (∀ j : Int, 0 ≤ j → I2 291 (3 + 27 * s + (3 + j)) = if 3 * k ≤ j ∧ j < q then I1 291 (3 + 27 * s + (3 + (j + 3))) else I1 291 (3 + 27 * s + (3 + j))) → (∀ (x : Nat) (j : Int), ¬ (x = 291 ∧ 3 + 27 * s + 2 ≤ j ∧ j < 3 + 27 * s + 27) → I2 x j = I1 x j) → WW cX8_removeStop RX8 4 (some .int) false 5 0 0 (PM (aRemoveStop a s k) I R) 0 0 47 [some (.inr (some 290)), some (.inl s), some (.inl k), some (.inl q)] [] (298, ShF, I2, R) := by
    intro hs3 hk3 I1 hM1 hk1 n
    have hS1 : AtM (I1 291) a.1 := hM1.2.1
    have hYs := hS1.2.2.2.1 s (by omega) (by omega)
    have hwy := hW.2.2.2.1 s.toNat (by omega)
    have hcb := cntF_bd (a.1.2.1 s.toNat).2.2 80
    have h8 := hwy.2.2.2
    obtain ⟨hz1, hz2⟩ := posF_in hk3
    induction n with
    | zero => intros; exfalso; omega
    | succ n ih =>
      intro q I2 g1 g2 g3 g4 g5 g6
      refine r_iload_n dX8_removeStop_47 rfl ?_
      refine r_iconst dX8_removeStop_48 ?_
      refine r_aload_n dX8_removeStop_49 rfl ?_
      refine r_iload_n dX8_removeStop_50 rfl ?_
      refine r_iconst dX8_removeStop_51 ?_
      refine q_callVF lk_X8_44 dX8_removeStop_52 (m_of I2 R hRO s 2 (by omega)) (by decide) sf_290 rfl rfl (Nat.le_of_ble_eq_true rfl) (by decide) ?_
      rw [g4]
      refine r_imul dX8_removeStop_55 ?_
      refine r_icmpge (tgt := 91) dX8_removeStop_56 (by decide) (by omega) (by omega) (fun h56 => ?_) (fun h56 => ?_)
      · refine r_aload_n dX8_removeStop_91 rfl ?_
        refine r_iload_n dX8_removeStop_92 rfl ?_
        refine r_iconst dX8_removeStop_93 ?_
        refine q_callVF lk_X8_44 dX8_removeStop_94 (m_of I2 R hRO s 2 (by omega)) (by decide) sf_290 rfl rfl (Nat.le_of_ble_eq_true rfl) (by decide) ?_
        rw [g4]
        refine q_iretZ dX8_removeStop_97 rfl ?_
        have hzn : posF (a.1.2.1 s.toNat).2.2 k ≠ -9 := by have := hz1.1; omega
        have e : aRemoveStop a s k = (cntF (upF (a.1.2.1 s.toNat).2.2 (posF (a.1.2.1 s.toNat).2.2 k) 0) 80, wS (psh a) (setF a.1 s.toNat (upF (a.1.2.1 s.toNat).2.2 (posF (a.1.2.1 s.toNat).2.2 k) 0))) := by
          unfold aRemoveStop
          rw [if_pos ⟨by omega, hzn⟩]
        rw [e]
        have hrm := fun n : Nat => cntF_rm (a.1.2.1 s.toNat).2.2 (p := posF (a.1.2.1 s.toNat).2.2 k) hz1.1 n
        have h80 := hrm 80
        have hzb := hz1.2.1
        rw [if_pos (show (a.1.2.1 s.toNat).2.2 (posF (a.1.2.1 s.toNat).2.2 k) ≠ 0 ∧ posF (a.1.2.1 s.toNat).2.2 k ≤ ((80 : Nat) : Int) from ⟨hz1.2.2, by omega⟩)] at h80
        generalize hzz : posF (a.1.2.1 s.toNat).2.2 k = z at hz1 hz2 hrm h80 hzb
        refine ⟨h80.symm, hM1.sty (by omega) (SV_up hwy.2.2.1 (by omega)) (by show cntF (upF (a.1.2.1 s.toNat).2.2 z 0) 80 ≤ 8; omega) ⟨?_, ?_, ?_, fun x hx => ?_⟩ g6, fun x j h => by rw [g6 _ _ (by omega)]; exact hk1 x j (by omega) (by omega)⟩
        · exact (g6 _ _ (by omega)).trans hYs.1
        · exact (g6 _ _ (by omega)).trans hYs.2.1
        · show I2 291 (3 + 27 * s + 2) = cntF (upF (a.1.2.1 s.toNat).2.2 z 0) 80
          rw [g4, h80]
        · have hx : StpF (upF (a.1.2.1 s.toNat).2.2 z 0) x := hx
          have hxz : x ≠ z := fun e => hx.2.2 (by unfold upF; rw [if_pos e])
          have hfx : upF (a.1.2.1 s.toNat).2.2 z 0 x = (a.1.2.1 s.toNat).2.2 x := if_neg hxz
          have hxs : StpF (a.1.2.1 s.toNat).2.2 x := ⟨hx.1, hx.2.1, by have := hx.2.2; rw [hfx] at this; exact this⟩
          have h1 := hYs.2.2.2 x hxs
          have h2 := cnt_lt hxs
          have h3 := (cntF_bd (a.1.2.1 s.toNat).2.2 (x - 1).toNat).1
          have h4 := hrm (x - 1).toNat
          have hx1 := hx.1
          have hrd : ∀ w : Int, 0 ≤ w → w ≤ 2 → I2 291 (3 + 27 * s + (3 + (3 * cntF (upF (a.1.2.1 s.toNat).2.2 z 0) (x - 1).toNat + w))) = I1 291 (3 + 27 * s + (3 + (3 * cntF (a.1.2.1 s.toNat).2.2 (x - 1).toNat + w))) := fun w w1 w2 => by
            have hb6 := (cntF_bd (upF (a.1.2.1 s.toNat).2.2 z 0) (x - 1).toNat).1
            rw [g5 _ (by omega)]
            by_cases hpq : z < x
            · have h6 := cnt_inj hz1 hxs hpq
              rw [if_pos (show (a.1.2.1 s.toNat).2.2 z ≠ 0 ∧ z ≤ (((x - 1).toNat : Nat) : Int) from ⟨hz1.2.2, by omega⟩)] at h4
              rw [if_pos (by omega), show 3 * cntF (upF (a.1.2.1 s.toNat).2.2 z 0) (x - 1).toNat + w + 3 = 3 * cntF (a.1.2.1 s.toNat).2.2 (x - 1).toNat + w by omega]
            · have h6 := cnt_inj hxs hz1 (by omega)
              rw [if_neg (show ¬ ((a.1.2.1 s.toNat).2.2 z ≠ 0 ∧ z ≤ (((x - 1).toNat : Nat) : Int)) by omega)] at h4
              rw [if_neg (by omega), show cntF (upF (a.1.2.1 s.toNat).2.2 z 0) (x - 1).toNat = cntF (a.1.2.1 s.toNat).2.2 (x - 1).toNat by omega]
          show I2 291 (3 + 27 * s + (3 + 3 * cntF (upF (a.1.2.1 s.toNat).2.2 z 0) (x - 1).toNat)) = x ∧ I2 291 (3 + 27 * s + (3 + 3 * cntF (upF (a.1.2.1 s.toNat).2.2 z 0) (x - 1).toNat + 1)) = (upF (a.1.2.1 s.toNat).2.2 z 0 x - 1) / 4 ∧ I2 291 (3 + 27 * s + (3 + 3 * cntF (upF (a.1.2.1 s.toNat).2.2 z 0) (x - 1).toNat + 2)) = (upF (a.1.2.1 s.toNat).2.2 z 0 x - 1) % 4
          rw [hfx]
          refine ⟨?_, ?_, ?_⟩
          · have := hrd 0 (by omega) (by omega)
            rw [Int.add_zero, Int.add_zero] at this
            exact this.trans h1.1
          · have := hrd 1 (by omega) (by omega)
            rw [show 3 + 3 * cntF (upF (a.1.2.1 s.toNat).2.2 z 0) (x - 1).toNat + 1 = 3 + (3 * cntF (upF (a.1.2.1 s.toNat).2.2 z 0) (x - 1).toNat + 1) by omega, this, show 3 + (3 * cntF (a.1.2.1 s.toNat).2.2 (x - 1).toNat + 1) = 3 + 3 * cntF (a.1.2.1 s.toNat).2.2 (x - 1).toNat + 1 by omega]
            exact h1.2.1
          · have := hrd 2 (by omega) (by omega)
            rw [show 3 + 3 * cntF (upF (a.1.2.1 s.toNat).2.2 z 0) (x - 1).toNat + 2 = 3 + (3 * cntF (upF (a.1.2.1 s.toNat).2.2 z 0) (x - 1).toNat + 2) by omega, this, show 3 + (3 * cntF (a.1.2.1 s.toNat).2.2 (x - 1).toNat + 2) = 3 + 3 * cntF (a.1.2.1 s.toNat).2.2 (x - 1).toNat + 2 by omega]
            exact h1.2.2
      · refine r_aload_n dX8_removeStop_59 rfl ?_
        refine q_getR fl_X8_7 dX8_removeStop_60 sf_290 (ro_290_0 hRO) ?_
        refine r_iload_n dX8_removeStop_63 rfl ?_
        refine r_iconst dX8_removeStop_64 ?_
        refine r_iload_n dX8_removeStop_65 rfl ?_
        refine r_iadd dX8_removeStop_66 ?_
        refine q_callSF lk_X8_40 dX8_removeStop_67 (m_placeOf _ R s (3 + q)) (by decide) rfl rfl (Nat.le_of_ble_eq_true rfl) (by decide) ?_
        refine r_aload_n dX8_removeStop_70 rfl ?_
        refine q_getR fl_X8_7 dX8_removeStop_71 sf_290 (ro_290_0 hRO) ?_
        refine r_iload_n dX8_removeStop_74 rfl ?_
        refine r_iconst dX8_removeStop_75 ?_
        refine r_iload_n dX8_removeStop_76 rfl ?_
        refine r_iadd dX8_removeStop_77 ?_
        refine r_iconst dX8_removeStop_78 ?_
        refine r_iadd dX8_removeStop_79 ?_
        refine q_callSF lk_X8_40 dX8_removeStop_80 (m_placeOf _ R s (3 + q + 3)) (by decide) rfl rfl (Nat.le_of_ble_eq_true rfl) (by decide) ?_
        refine q_iald dX8_removeStop_83 sf_291 (by omega) ?_
        have hrd : I2 291 (3 + 27 * s + (3 + q + 3)) = I1 291 (3 + 27 * s + (3 + (q + 3))) := by
          have h := g5 (q + 3) (by omega)
          rw [if_neg (by omega)] at h
          rw [show 3 + q + 3 = 3 + (q + 3) by omega]
          exact h
        rw [hrd]
        refine q_iast dX8_removeStop_84 sf_291 (by omega) ?_
        refine r_iinc dX8_removeStop_85 rfl (by decide) ?_
        dsimp only [lset]
        refine r_goto (tgt := 47) dX8_removeStop_88 (by decide) ?_
        refine ih _ _ (by omega) (by omega) (by omega) (by rw [u2_n (Or.inr (by omega))]; exact g4) (fun j hj0 => ?_) (fun x j h => by rw [u2_n (by omega)]; exact g6 x j h)
        rw [u2_at]
        by_cases hj : j = q
        · rw [if_pos ⟨rfl, by omega⟩, if_pos (by omega), hj]
        · rw [if_neg (by omega), g5 j hj0]
          by_cases h3 : 3 * k ≤ j ∧ j < q
          · rw [if_pos h3, if_pos (by omega)]
          · rw [if_neg h3, if_neg (by omega)]
  refine CC_of (own := RX8) (ini := false) (by decide +kernel) rfl (fun h => absurd h (by decide)) (Nat.le_of_ble_eq_true rfl) ?_
  show WW cX8_removeStop RX8 4 (some .int) false 5 0 0 (PM (aRemoveStop a s k) I R) 0 0 0 [some (.inr (some 290)), some (.inl (s)), some (.inl (k)), none] [] (298, ShF, I, R)
  refine r_iload_n dX8_removeStop_0 rfl ?_
  refine q_callSF lk_X8_50 dX8_removeStop_1 (m_isStyle I R s hs) (by decide) rfl rfl (Nat.le_of_ble_eq_true rfl) (by decide) ?_
  refine q_ifeqB (tgt := 23) dX8_removeStop_4 (by decide) (fun h4 => ?_) (fun h4 => ?_)
  · refine r_iconst dX8_removeStop_23 ?_
    refine q_iretZ dX8_removeStop_24 rfl ?_
    first
      | (have e : aRemoveStop a s k = (-1, a) := by
           unfold aRemoveStop
           rw [if_neg (by omega)]
         rw [e]
         exact ⟨rfl, hM, fun _ _ _ => rfl⟩)
      | (have hpo := posF_out (f := (a.1.2.1 s.toNat).2.2) (k := k) (by omega)
         have e : aRemoveStop a s k = (-1, a) := by
           unfold aRemoveStop
           rw [if_neg (fun h => h.2 hpo)]
         rw [e]
         exact ⟨rfl, hM, fun _ _ _ => rfl⟩)
  · have hYs := hS.2.2.2.1 s (by omega) (by omega)
    have hwy := hW.2.2.2.1 s.toNat (by omega)
    have hcb := cntF_bd (a.1.2.1 s.toNat).2.2 80
    have h8 := hwy.2.2.2
    have hY2 : I 291 (3 + 27 * s + 2) = cntF (a.1.2.1 s.toNat).2.2 80 := hYs.2.2.1
    refine r_iload_n dX8_removeStop_7 rfl ?_
    refine r_iconst dX8_removeStop_8 ?_
    refine r_aload_n dX8_removeStop_9 rfl ?_
    refine r_iload_n dX8_removeStop_10 rfl ?_
    refine r_iconst dX8_removeStop_11 ?_
    refine q_callVF lk_X8_44 dX8_removeStop_12 (m_of I R hRO s 2 (by omega)) (by decide) sf_290 rfl rfl (Nat.le_of_ble_eq_true rfl) (by decide) ?_
    rw [hY2]
    refine r_iconst dX8_removeStop_15 ?_
    refine r_isub dX8_removeStop_16 ?_
    refine q_callSF lk_X8_36 dX8_removeStop_17 (c_in I R k 0 (cntF (a.1.2.1 s.toNat).2.2 80 - 1) hk (by decide) (by omega)) (by decide) rfl rfl (Nat.le_of_ble_eq_true rfl) (by decide) ?_
    refine q_ifneB (tgt := 25) dX8_removeStop_20 (by decide) (fun h20 => ?_) (fun h20 => ?_)
    · refine r_aload_n dX8_removeStop_25 rfl ?_
      refine q_callVW lk_X8_47 dX8_removeStop_26 (m_notes I R hRO a hM) (by decide) sf_290 rfl rfl (Nat.le_of_ble_eq_true rfl) (by decide) (fun I1 hnt => ?_)
      obtain ⟨hM1, hk1⟩ := hnt
      have hS1 : AtM (I1 291) a.1 := hM1.2.1
      have hYs1 := hS1.2.2.2.1 s (by omega) (by omega)
      refine r_aload_n dX8_removeStop_29 rfl ?_
      refine q_getR fl_X8_7 dX8_removeStop_30 sf_290 (ro_290_0 hRO) ?_
      refine r_iload_n dX8_removeStop_33 rfl ?_
      refine r_iconst dX8_removeStop_34 ?_
      refine q_callSF lk_X8_40 dX8_removeStop_35 (m_placeOf I1 R s 2) (by decide) rfl rfl (Nat.le_of_ble_eq_true rfl) (by decide) ?_
      refine r_dup2 dX8_removeStop_38 ?_
      refine q_iald dX8_removeStop_39 sf_291 (by omega) ?_
      have hY21 : I1 291 (3 + 27 * s + 2) = cntF (a.1.2.1 s.toNat).2.2 80 := hYs1.2.2.1
      rw [hY21]
      refine r_iconst dX8_removeStop_40 ?_
      refine r_isub dX8_removeStop_41 ?_
      refine q_iast dX8_removeStop_42 sf_291 (by omega) ?_
      refine r_iconst dX8_removeStop_43 ?_
      refine r_iload_n dX8_removeStop_44 rfl ?_
      refine r_imul dX8_removeStop_45 ?_
      refine r_istore_n dX8_removeStop_46 (by decide) ?_
      dsimp only [lset]
      exact hloop (by omega) (by omega) I1 hM1 hk1 25 _ _ (by omega) (by omega) (by omega) u2_s (fun j hj0 => by rw [if_neg (by omega)]; exact u2_n (Or.inr (by omega))) (fun x j h => u2_n (by omega))
    · refine r_iconst dX8_removeStop_23 ?_
      refine q_iretZ dX8_removeStop_24 rfl ?_
      first
        | (have e : aRemoveStop a s k = (-1, a) := by
             unfold aRemoveStop
             rw [if_neg (by omega)]
           rw [e]
           exact ⟨rfl, hM, fun _ _ _ => rfl⟩)
        | (have hpo := posF_out (f := (a.1.2.1 s.toNat).2.2) (k := k) (by omega)
           have e : aRemoveStop a s k = (-1, a) := by
             unfold aRemoveStop
             rw [if_neg (fun h => h.2 hpo)]
           rw [e]
           exact ⟨rfl, hM, fun _ _ _ => rfl⟩)
set_option maxHeartbeats 4000000 in
set_option maxRecDepth 100000 in
theorem m_appendCharacter (I : Mem) (R : RMem) (hRO : RefOk R) (a : AS) (hM : MI I a) (c : Int) (hc : -2147483648 ≤ c ∧ c ≤ 2147483647) : CC 2 0 0 yX8_appendCharacter cX8_appendCharacter 2 (some .int) [.inr (some 290), .inl (c)] (298, ShF, I, R) (PM (aAppend a c) I R) := by
  have hA := hM.1
  have hW := hA.1
  have hW1 := hW.1
  have hW2 := hW.2.1
  have hW3 := hW.2.2.1
  have hS := hM.2.1
  refine CC_of (own := RX8) (ini := false) (by decide +kernel) rfl (fun h => absurd h (by decide)) (Nat.le_of_ble_eq_true rfl) ?_
  show WW cX8_appendCharacter RX8 2 (some .int) false 2 0 0 (PM (aAppend a c) I R) 0 0 0 [some (.inr (some 290)), some (.inl (c))] [] (298, ShF, I, R)
  refine r_iload_n dX8_appendCharacter_0 rfl ?_
  refine r_iconst dX8_appendCharacter_1 ?_
  refine r_sipush dX8_appendCharacter_2 (by decide) ?_
  refine q_callSF lk_X8_36 dX8_appendCharacter_5 (c_in I R c 0 255 hc (by decide) (by decide)) (by decide) rfl rfl (Nat.le_of_ble_eq_true rfl) (by decide) ?_
  refine q_ifneB (tgt := 13) dX8_appendCharacter_8 (by decide) (fun h8 => ?_) (fun h8 => ?_)
  · refine r_aload_n dX8_appendCharacter_13 rfl ?_
    refine q_getI fl_X8_66 dX8_appendCharacter_14 sf_290 ?_
    have htl := hM.2.2.2.2.1
    have htl2 := hA.2.2.2.1
    have hbm := bm_in c
    rw [htl]
    refine r_bipush dX8_appendCharacter_17 (by decide) ?_
    refine r_icmpne (tgt := 25) dX8_appendCharacter_19 (by decide) (by omega) (by omega) (fun h19 => ?_) (fun h19 => ?_)
    · refine r_aload_n dX8_appendCharacter_25 rfl ?_
      refine q_getR fl_X8_16 dX8_appendCharacter_26 sf_290 (ro_290_3 hRO) ?_
      refine r_aload_n dX8_appendCharacter_29 rfl ?_
      refine q_getI fl_X8_66 dX8_appendCharacter_30 sf_290 ?_
      rw [htl]
      refine r_iload_n dX8_appendCharacter_33 rfl ?_
      refine r_i2b dX8_appendCharacter_34 ?_
      refine q_bast dX8_appendCharacter_35 sf_293 (by omega) (by omega) ?_
      refine r_aload_n dX8_appendCharacter_36 rfl ?_
      refine r_dup dX8_appendCharacter_37 ?_
      refine q_getI fl_X8_66 dX8_appendCharacter_38 sf_290 ?_
      rw [u2_n (Or.inl (by decide)), htl]
      refine r_iconst dX8_appendCharacter_41 ?_
      refine r_iadd dX8_appendCharacter_42 ?_
      refine q_putI fl_X8_66 dX8_appendCharacter_43 sf_290 ?_
      refine r_aload_n dX8_appendCharacter_46 rfl ?_
      refine q_getI fl_X8_66 dX8_appendCharacter_47 sf_290 ?_
      refine q_iretZ dX8_appendCharacter_50 rfl ?_
      have e : aAppend a c = ((a.2.2.2.1 : Int) + 1, (a.1, a.2.1, a.2.2.1, a.2.2.2.1 + 1, upF a.2.2.2.2 a.2.2.2.1 c)) := by
        unfold aAppend
        rw [if_pos (by omega), if_neg (by omega)]
      rw [e]
      have hk : ∀ (x : Nat) (j : Int), x ≠ 293 → ¬ (x = 290 ∧ j = 4) → u2 (u2 I 293 (a.2.2.2.1 : Int) (c.bmod 256)) 290 4 ((a.2.2.2.1 : Int) + 1) x j = I x j := fun x j h1 h2 => by rw [u2_n (by omega), u2_n (Or.inl h1)]
      refine ⟨u2_s, ⟨⟨hA.1, hA.2.1, hA.2.2.1, by show a.2.2.2.1 + 1 ≤ 100; omega, fun j h1 h2 => ?_⟩, ?_, (hk _ _ (by decide) (by decide)).trans hM.2.2.1, fun j hj => ?_, ?_, fun j h1 h2 => ?_⟩, fun x j h => hk x j (by omega) (by omega)⟩
      · have h2 : j < ((a.2.2.2.1 + 1 : Nat) : Int) := h2
        show 0 ≤ upF a.2.2.2.2 a.2.2.2.1 c j ∧ upF a.2.2.2.2 a.2.2.2.1 c j ≤ 255
        unfold upF
        by_cases hj : j = a.2.2.2.1
        · rw [if_pos hj]; omega
        · rw [if_neg hj]; exact hA.2.2.2.2 j h1 (by omega)
      · exact hS.congr hW (fun j _ _ => hk _ _ (by decide) (by omega))
      · have ej : (fun q => u2 (u2 I 293 (a.2.2.2.1 : Int) (c.bmod 256)) 290 4 ((a.2.2.2.1 : Int) + 1) 292 (767 * (j : Int) + q)) = fun q => I 292 (767 * (j : Int) + q) := funext fun q => hk _ _ (by decide) (by omega)
        rw [ej]
        exact hM.2.2.2.1 j hj
      · rw [u2_s]
        show _ = ((a.2.2.2.1 + 1 : Nat) : Int)
        omega
      · have h2 : j < ((a.2.2.2.1 + 1 : Nat) : Int) := h2
        rw [u2_n (Or.inl (by decide)), u2_at]
        show _ = (upF a.2.2.2.2 a.2.2.2.1 c j).bmod 256
        unfold upF
        by_cases hj : j = (a.2.2.2.1 : Int)
        · rw [if_pos ⟨rfl, by omega⟩, if_pos hj]
        · rw [if_neg (by omega), if_neg hj]
          exact hM.2.2.2.2.2 j h1 (by omega)
    · refine r_bipush dX8_appendCharacter_22 (by decide) ?_
      refine q_iretZ dX8_appendCharacter_24 rfl ?_
      have e : aAppend a c = (-3, a) := by
        unfold aAppend
        rw [if_pos (by omega), if_pos (by omega)]
      rw [e]
      exact ⟨rfl, hM, fun _ _ _ => rfl⟩
  · refine r_iconst dX8_appendCharacter_11 ?_
    refine q_iretZ dX8_appendCharacter_12 rfl ?_
    have e : aAppend a c = (-1, a) := by
      unfold aAppend
      rw [if_neg (by omega)]
    rw [e]
    exact ⟨rfl, hM, fun _ _ _ => rfl⟩
theorem MI.clr {I : Mem} {a : AS} (h : MI I a) : MI (u2 I 290 4 0) (clr a) := by
  refine ⟨⟨h.1.1, h.1.2.1, h.1.2.2.1, Nat.zero_le _, fun j h1 h2 => by have h2 : j < ((0 : Nat) : Int) := h2; omega⟩, h.2.1.congr h.1.1 (fun j _ _ => u2_n (Or.inl (by decide))), (u2_n (Or.inr (by decide))).trans h.2.2.1, fun j hj => ?_, u2_s, fun j h1 h2 => by have h2 : j < ((0 : Nat) : Int) := h2; omega⟩
  have ej : (fun q => u2 I 290 4 0 292 (767 * (j : Int) + q)) = fun q => I 292 (767 * (j : Int) + q) := funext fun q => u2_n (Or.inl (by decide))
  rw [ej]
  exact h.2.2.2.1 j hj
set_option maxHeartbeats 4000000 in
set_option maxRecDepth 100000 in
theorem m_clearText (I : Mem) (R : RMem) (hRO : RefOk R) (a : AS) (hM : MI I a)  : CC 2 0 0 yX8_clearText cX8_clearText 2 (some .int) [.inr (some 290)] (298, ShF, I, R) (PM (aClear a) I R) := by
  refine CC_of (own := RX8) (ini := false) (by decide +kernel) rfl (fun h => absurd h (by decide)) (Nat.le_of_ble_eq_true rfl) ?_
  show WW cX8_clearText RX8 2 (some .int) false 2 0 0 (PM (aClear a) I R) 0 0 0 [some (.inr (some 290)), none] [] (298, ShF, I, R)
  refine r_aload_n dX8_clearText_0 rfl ?_
  refine q_getI fl_X8_66 dX8_clearText_1 sf_290 ?_
  refine r_istore_n dX8_clearText_4 (by decide) ?_
  dsimp only [lset]
  refine r_aload_n dX8_clearText_5 rfl ?_
  refine r_iconst dX8_clearText_6 ?_
  refine q_putI fl_X8_66 dX8_clearText_7 sf_290 ?_
  refine r_iload_n dX8_clearText_10 rfl ?_
  refine q_iretZ dX8_clearText_11 rfl ?_
  exact ⟨hM.2.2.2.2.1, hM.clr, fun x j h => u2_n (Or.inl (by omega))⟩
set_option maxHeartbeats 4000000 in
set_option maxRecDepth 100000 in
theorem m_addParagraph (I : Mem) (R : RMem) (hRO : RefOk R) (a : AS) (hM : MI I a) (s : Int) (hs : -2147483648 ≤ s ∧ s ≤ 2147483647) : CC 3 0 0 yX8_addParagraph cX8_addParagraph 2 (some .int) [.inr (some 290), .inl (s)] (298, ShF, I, R) (PM (aAddPar a s) I R) := by
  have hA := hM.1
  have hW := hA.1
  have hW1 := hW.1
  have hW2 := hW.2.1
  have hW3 := hW.2.2.1
  have hS := hM.2.1
  refine CC_of (own := RX8) (ini := false) (by decide +kernel) rfl (fun h => absurd h (by decide)) (Nat.le_of_ble_eq_true rfl) ?_
  show WW cX8_addParagraph RX8 2 (some .int) false 3 0 0 (PM (aAddPar a s) I R) 0 0 0 [some (.inr (some 290)), some (.inl (s))] [] (298, ShF, I, R)
  refine r_iload_n dX8_addParagraph_0 rfl ?_
  refine q_callSF lk_X8_50 dX8_addParagraph_1 (m_isStyle I R s hs) (by decide) rfl rfl (Nat.le_of_ble_eq_true rfl) (by decide) ?_
  refine q_ifneB (tgt := 9) dX8_addParagraph_4 (by decide) (fun h4 => ?_) (fun h4 => ?_)
  · refine r_aload_n dX8_addParagraph_9 rfl ?_
    refine q_getR fl_X8_7 dX8_addParagraph_10 sf_290 (ro_290_0 hRO) ?_
    refine r_iconst dX8_addParagraph_13 ?_
    refine q_iald dX8_addParagraph_14 sf_291 (by omega) ?_
    rw [hS.2.2.1]
    refine r_bipush dX8_addParagraph_15 (by decide) ?_
    refine r_icmpne (tgt := 23) dX8_addParagraph_17 (by decide) (by omega) (by omega) (fun h17 => ?_) (fun h17 => ?_)
    · refine r_aload_n dX8_addParagraph_23 rfl ?_
      refine q_callVW lk_X8_47 dX8_addParagraph_24 (m_notes I R hRO a hM) (by decide) sf_290 rfl rfl (Nat.le_of_ble_eq_true rfl) (by decide) (fun I1 hnt => ?_)
      obtain ⟨hM1, hk1⟩ := hnt
      have hS1 : AtM (I1 291) a.1 := hM1.2.1
      have hc1 := hS1.2.2.1
      refine r_aload_n dX8_addParagraph_27 rfl ?_
      refine q_getR fl_X8_7 dX8_addParagraph_28 sf_290 (ro_290_0 hRO) ?_
      refine r_aload_n dX8_addParagraph_31 rfl ?_
      refine q_getR fl_X8_7 dX8_addParagraph_32 sf_290 (ro_290_0 hRO) ?_
      refine r_iconst dX8_addParagraph_35 ?_
      refine q_iald dX8_addParagraph_36 sf_291 (by omega) ?_
      rw [hc1]
      refine q_callSF lk_X8_93 dX8_addParagraph_37 (m_own I1 R a.1.1.2.2) (by decide) rfl rfl (Nat.le_of_ble_eq_true rfl) (by decide) ?_
      refine r_iload_n dX8_addParagraph_40 rfl ?_
      refine q_iast dX8_addParagraph_41 sf_291 (by omega) ?_
      refine r_aload_n dX8_addParagraph_42 rfl ?_
      refine q_getR fl_X8_7 dX8_addParagraph_43 sf_290 (ro_290_0 hRO) ?_
      refine r_aload_n dX8_addParagraph_46 rfl ?_
      refine q_getR fl_X8_7 dX8_addParagraph_47 sf_290 (ro_290_0 hRO) ?_
      refine r_iconst dX8_addParagraph_50 ?_
      refine q_iald dX8_addParagraph_51 sf_291 (by omega) ?_
      rw [u2_n (Or.inr (by omega)), hc1]
      refine q_callSF lk_X8_93 dX8_addParagraph_52 (m_own _ R a.1.1.2.2) (by decide) rfl rfl (Nat.le_of_ble_eq_true rfl) (by decide) ?_
      refine r_iconst dX8_addParagraph_55 ?_
      refine r_iadd dX8_addParagraph_56 ?_
      refine r_iconst dX8_addParagraph_57 ?_
      refine q_iast dX8_addParagraph_58 sf_291 (by omega) ?_
      refine r_aload_n dX8_addParagraph_59 rfl ?_
      refine q_getR fl_X8_7 dX8_addParagraph_60 sf_290 (ro_290_0 hRO) ?_
      refine r_iconst dX8_addParagraph_63 ?_
      refine r_dup2 dX8_addParagraph_64 ?_
      refine q_iald dX8_addParagraph_65 sf_291 (by omega) ?_
      rw [u2_n (Or.inr (by omega)), u2_n (Or.inr (by omega)), hc1]
      refine r_iconst dX8_addParagraph_66 ?_
      refine r_iadd dX8_addParagraph_67 ?_
      refine q_iast dX8_addParagraph_68 sf_291 (by omega) ?_
      refine r_aload_n dX8_addParagraph_69 rfl ?_
      refine q_getR fl_X8_7 dX8_addParagraph_70 sf_290 (ro_290_0 hRO) ?_
      refine r_iconst dX8_addParagraph_73 ?_
      refine q_iald dX8_addParagraph_74 sf_291 (by omega) ?_
      rw [u2_s]
      refine r_iconst dX8_addParagraph_75 ?_
      refine r_isub dX8_addParagraph_76 ?_
      refine q_iretZ dX8_addParagraph_77 rfl ?_
      have e : aAddPar a s = (a.1.1.2.2, wS (psh a) ((a.1.1.1, a.1.1.2.1, a.1.1.2.2 + 1), a.1.2.1, upY a.1.2.2 a.1.1.2.2.toNat (s, 0, (a.1.2.2 a.1.1.2.2.toNat).2.2))) := by
        unfold aAddPar
        rw [if_pos (by omega), if_neg (by omega)]
      rw [e]
      have hk : ∀ (x : Nat) (j : Int), ¬ (x = 291 ∧ (j = 111 + 82 * a.1.1.2.2 ∨ j = 111 + 82 * a.1.1.2.2 + 1 ∨ j = 2)) → u2 (u2 (u2 I1 291 (111 + 82 * a.1.1.2.2) s) 291 (111 + 82 * a.1.1.2.2 + 1) 0) 291 2 (a.1.1.2.2 + 1) x j = I1 x j := fun x j h => by rw [u2_n (by omega), u2_n (by omega), u2_n (by omega)]
      refine ⟨by omega, hM1.st (σ := ((a.1.1.1, a.1.1.2.1, a.1.1.2.2 + 1), a.1.2.1, upY a.1.2.2 a.1.1.2.2.toNat (s, 0, (a.1.2.2 a.1.1.2.2.toNat).2.2))) ⟨hW1, hW2, by show 0 ≤ a.1.1.2.2 + 1 ∧ a.1.1.2.2 + 1 ≤ 8; omega, hW.2.2.2.1, fun i hi => ?_⟩ ⟨(hk _ _ (by omega)).trans hS1.1, (hk _ _ (by omega)).trans hS1.2.1, u2_s, fun i h1 h2 => ?_, fun i h1 h2 => ?_⟩ (fun x j h => hk x j (by omega)), fun x j h => by rw [hk _ _ (by omega)]; exact hk1 x j (by omega) (by omega)⟩
      · have hi : (i : Int) < a.1.1.2.2 + 1 := hi
        show WfP (upY a.1.2.2 a.1.1.2.2.toNat _ i)
        unfold upY
        by_cases hic : i = a.1.1.2.2.toNat
        · rw [if_pos hic]
          exact ⟨by show 0 ≤ s ∧ s ≤ 3; omega, by show (0 : Int) ≤ 0 ∧ (0 : Int) ≤ 80; omega, fun j h1 h2 => by have h2 : j < 0 := h2; omega⟩
        · rw [if_neg hic]
          exact hW.2.2.2.2 i (by omega)
      · exact (hS1.2.2.2.1 i h1 h2).congr (hW.2.2.2.1 i.toNat (by omega)).2.2.2 (fun j q1 q2 => hk _ _ (by omega))
      · have h2 : i < a.1.1.2.2 + 1 := h2
        show MP _ (upY a.1.2.2 a.1.1.2.2.toNat _ i.toNat)
        unfold upY
        by_cases hic : i = a.1.1.2.2
        · rw [if_pos (by omega), hic]
          refine ⟨?_, ?_, fun j q1 q2 => by have q2 : j < 0 := q2; omega⟩
          · show u2 _ 291 2 _ 291 (111 + 82 * a.1.1.2.2 + 0) = s
            rw [Int.add_zero, u2_n (Or.inr (by omega)), u2_n (Or.inr (by omega)), u2_s]
          · show u2 _ 291 2 _ 291 (111 + 82 * a.1.1.2.2 + 1) = 0
            rw [u2_n (Or.inr (by omega)), u2_s]
        · rw [if_neg (by omega)]
          exact (hS1.2.2.2.2 i h1 (by omega)).congr (hW.2.2.2.2 i.toNat (by omega)).2.1.2 (fun j q1 q2 => hk _ _ (by omega))
    · refine r_bipush dX8_addParagraph_20 (by decide) ?_
      refine q_iretZ dX8_addParagraph_22 rfl ?_
      have e : aAddPar a s = (-3, a) := by
        unfold aAddPar
        rw [if_pos (by omega), if_pos (by omega)]
      rw [e]
      exact ⟨rfl, hM, fun _ _ _ => rfl⟩
  · refine r_iconst dX8_addParagraph_7 ?_
    refine q_iretZ dX8_addParagraph_8 rfl ?_
    have e : aAddPar a s = (-1, a) := by
      unfold aAddPar
      rw [if_neg (by omega)]
    rw [e]
    exact ⟨rfl, hM, fun _ _ _ => rfl⟩
set_option maxHeartbeats 4000000 in
set_option maxRecDepth 100000 in
theorem m_setStyle (I : Mem) (R : RMem) (hRO : RefOk R) (a : AS) (hM : MI I a) (p : Int) (hp : -2147483648 ≤ p ∧ p ≤ 2147483647) (s : Int) (hs : -2147483648 ≤ s ∧ s ≤ 2147483647) : CC 3 0 0 yX8_setStyle cX8_setStyle 4 (some .int) [.inr (some 290), .inl (p), .inl (s)] (298, ShF, I, R) (PM (aSetStyle a p s) I R) := by
  have hA := hM.1
  have hW := hA.1
  have hW1 := hW.1
  have hW2 := hW.2.1
  have hW3 := hW.2.2.1
  have hS := hM.2.1
  refine CC_of (own := RX8) (ini := false) (by decide +kernel) rfl (fun h => absurd h (by decide)) (Nat.le_of_ble_eq_true rfl) ?_
  show WW cX8_setStyle RX8 4 (some .int) false 3 0 0 (PM (aSetStyle a p s) I R) 0 0 0 [some (.inr (some 290)), some (.inl (p)), some (.inl (s)), none] [] (298, ShF, I, R)
  refine r_aload_n dX8_setStyle_0 rfl ?_
  refine r_iload_n dX8_setStyle_1 rfl ?_
  refine q_callVF lk_X8_96 dX8_setStyle_2 (m_isParagraph I R hRO a.1.1.2.2 hS.2.2.1 hW3 p hp) (by decide) sf_290 rfl rfl (Nat.le_of_ble_eq_true rfl) (by decide) ?_
  refine q_ifeqB (tgt := 15) dX8_setStyle_5 (by decide) (fun h5 => ?_) (fun h5 => ?_)
  · refine r_iconst dX8_setStyle_15 ?_
    refine q_iretZ dX8_setStyle_16 rfl ?_
    have e : aSetStyle a p s = (-1, a) := by
      unfold aSetStyle
      rw [if_neg (by omega)]
    rw [e]
    exact ⟨rfl, hM, fun _ _ _ => rfl⟩
  · refine r_iload_n dX8_setStyle_8 rfl ?_
    refine q_callSF lk_X8_50 dX8_setStyle_9 (m_isStyle I R s hs) (by decide) rfl rfl (Nat.le_of_ble_eq_true rfl) (by decide) ?_
    refine q_ifneB (tgt := 17) dX8_setStyle_12 (by decide) (fun h12 => ?_) (fun h12 => ?_)
    · refine r_aload_n dX8_setStyle_17 rfl ?_
      refine q_callVW lk_X8_47 dX8_setStyle_18 (m_notes I R hRO a hM) (by decide) sf_290 rfl rfl (Nat.le_of_ble_eq_true rfl) (by decide) (fun I1 hnt => ?_)
      obtain ⟨hM1, hk1⟩ := hnt
      have hS1 : AtM (I1 291) a.1 := hM1.2.1
      refine r_aload_n dX8_setStyle_21 rfl ?_
      refine q_getR fl_X8_7 dX8_setStyle_22 sf_290 (ro_290_0 hRO) ?_
      refine r_iload_n dX8_setStyle_25 rfl ?_
      refine q_callSF lk_X8_93 dX8_setStyle_26 (m_own I1 R p) (by decide) rfl rfl (Nat.le_of_ble_eq_true rfl) (by decide) ?_
      refine q_iald dX8_setStyle_29 sf_291 (by omega) ?_
      refine r_istore_n dX8_setStyle_30 (by decide) ?_
      dsimp only [lset]
      refine r_aload_n dX8_setStyle_31 rfl ?_
      refine q_getR fl_X8_7 dX8_setStyle_32 sf_290 (ro_290_0 hRO) ?_
      refine r_iload_n dX8_setStyle_35 rfl ?_
      refine q_callSF lk_X8_93 dX8_setStyle_36 (m_own I1 R p) (by decide) rfl rfl (Nat.le_of_ble_eq_true rfl) (by decide) ?_
      refine r_iload_n dX8_setStyle_39 rfl ?_
      refine q_iast dX8_setStyle_40 sf_291 (by omega) ?_
      refine r_iload_n dX8_setStyle_41 rfl ?_
      refine q_iretZ dX8_setStyle_42 rfl ?_
      have e : aSetStyle a p s = ((a.1.2.2 p.toNat).1, wS (psh a) (setP a.1 p.toNat (s, (a.1.2.2 p.toNat).2))) := by
        unfold aSetStyle
        rw [if_pos (by omega)]
      rw [e]
      have hP := hS1.2.2.2.2 p (by omega) (by omega)
      have hwp := hW.2.2.2.2 p.toNat (by omega)
      have h0 : I1 291 (111 + 82 * p) = (a.1.2.2 p.toNat).1 := by
        have := hP.1
        dsimp only at this
        rw [Int.add_zero] at this
        exact this
      refine ⟨h0, hM1.par (p := p) (by show 0 ≤ p ∧ p ≤ a.1.1.2.2 - 1; omega) ⟨by show 0 ≤ s ∧ s ≤ 3; omega, hwp.2⟩ ⟨?_, ?_, fun j h1 h2 => ?_⟩ (fun x j h => u2_n (by omega)), fun x j h => by rw [u2_n (Or.inl (by omega))]; exact hk1 x j (by omega) (by omega)⟩
      · show u2 I1 291 (111 + 82 * p) s 291 (111 + 82 * p + 0) = s
        rw [Int.add_zero, u2_s]
      · exact (u2_n (Or.inr (by omega))).trans hP.2.1
      · exact (u2_n (Or.inr (by omega))).trans (hP.2.2 j h1 h2)
    · refine r_iconst dX8_setStyle_15 ?_
      refine q_iretZ dX8_setStyle_16 rfl ?_
      have e : aSetStyle a p s = (-1, a) := by
        unfold aSetStyle
        rw [if_neg (by omega)]
      rw [e]
      exact ⟨rfl, hM, fun _ _ _ => rfl⟩
set_option maxHeartbeats 4000000 in
set_option maxRecDepth 100000 in
theorem m_removeParagraph (I : Mem) (R : RMem) (hRO : RefOk R) (a : AS) (hM : MI I a) (p : Int) (hp : -2147483648 ≤ p ∧ p ≤ 2147483647) : CC 3 0 0 yX8_removeParagraph cX8_removeParagraph 3 (some .int) [.inr (some 290), .inl (p)] (298, ShF, I, R) (PM (aRemPar a p) I R) := by
  have hA := hM.1
  have hW := hA.1
  have hW1 := hW.1
  have hW2 := hW.2.1
  have hW3 := hW.2.2.1
  have hS := hM.2.1
  have hloop : (0 ≤ p ∧ p ≤ a.1.1.2.2 - 1) → ∀ (I1 : Mem), MI I1 (psh a) → (∀ (x : Nat) (j : Int), x ≠ 292 → ¬ (x = 290 ∧ j = 2) → I1 x j = I x j) → ∀ (n : Nat) (k : Int) (I2 : Mem), 111 + 82 * (a.1.1.2.2 - 1) < k + n → 111 + 82 * p ≤ k → k ≤ 111 + 82 * (a.1.1.2.2 - 1) → I2 291 2 = a.1.1.2.2 - 1 → (∀ j : Int, 111 ≤ j → I2 291 j = if 111 + 82 * p ≤ j ∧ j < k then I1 291 (j + 82) else I1 291 j) → (∀ (x : Nat) (j : Int), ¬ (x = 291 ∧ (111 ≤ j ∨ j = 2)) → I2 x j = I1 x j) → WW cX8_removeParagraph RX8 3 (some .int) false 3 0 0 (PM (aRemPar a p) I R) 0 0 29 [some (.inr (some 290)), some (.inl p), some (.inl k)] [] (298, ShF, I2, R) := by
    intro hp1 I1 hM1 hk1 n
    have hS1 : AtM (I1 291) a.1 := hM1.2.1
    induction n with
    | zero => intros; exfalso; omega
    | succ n ih =>
      intro k I2 g1 g2 g3 g4 g5 g6
      refine r_iload_n dX8_removeParagraph_29 rfl ?_
      refine r_aload_n dX8_removeParagraph_30 rfl ?_
      refine q_getR fl_X8_7 dX8_removeParagraph_31 sf_290 (ro_290_0 hRO) ?_
      refine r_iconst dX8_removeParagraph_34 ?_
      refine q_iald dX8_removeParagraph_35 sf_291 (by omega) ?_
      rw [g4]
      refine q_callSF lk_X8_93 dX8_removeParagraph_36 (m_own I2 R (a.1.1.2.2 - 1)) (by decide) rfl rfl (Nat.le_of_ble_eq_true rfl) (by decide) ?_
      refine r_icmpge (tgt := 63) dX8_removeParagraph_39 (by decide) (by omega) (by omega) (fun h39 => ?_) (fun h39 => ?_)
      · refine r_aload_n dX8_removeParagraph_63 rfl ?_
        refine q_getR fl_X8_7 dX8_removeParagraph_64 sf_290 (ro_290_0 hRO) ?_
        refine r_iconst dX8_removeParagraph_67 ?_
        refine q_iald dX8_removeParagraph_68 sf_291 (by omega) ?_
        rw [g4]
        refine q_iretZ dX8_removeParagraph_69 rfl ?_
        have e : aRemPar a p = (a.1.1.2.2 - 1, wS (psh a) ((a.1.1.1, a.1.1.2.1, a.1.1.2.2 - 1), a.1.2.1, rmF a.1.2.2 p.toNat (a.1.1.2.2 - 1).toNat)) := by
          unfold aRemPar
          rw [if_pos (by omega)]
        rw [e]
        have hpk := fun (i : Nat) (hi : i < 8) => rmF_pick (p := p.toNat) (c := (a.1.1.2.2 - 1).toNat) (by omega) (by omega) hi
        refine ⟨rfl, hM1.st (σ := ((a.1.1.1, a.1.1.2.1, a.1.1.2.2 - 1), a.1.2.1, rmF a.1.2.2 p.toNat (a.1.1.2.2 - 1).toNat)) ⟨hW1, hW2, by show 0 ≤ a.1.1.2.2 - 1 ∧ a.1.1.2.2 - 1 ≤ 8; omega, hW.2.2.2.1, fun i hi => ?_⟩ ⟨(g6 _ _ (by omega)).trans hS1.1, (g6 _ _ (by omega)).trans hS1.2.1, g4, fun i h1 h2 => ?_, fun i h1 h2 => ?_⟩ (fun x j h => g6 x j (by omega)), fun x j h => by rw [g6 _ _ (by omega)]; exact hk1 x j (by omega) (by omega)⟩
        · have hi : (i : Int) < a.1.1.2.2 - 1 := hi
          show WfP (rmF a.1.2.2 p.toNat (a.1.1.2.2 - 1).toNat i)
          obtain ⟨q, hq, hq2, hq3⟩ := hpk i (by omega)
          rw [hq2]
          exact hW.2.2.2.2 q (by omega)
        · exact (hS1.2.2.2.1 i h1 h2).congr (hW.2.2.2.1 i.toNat (by omega)).2.2.2 (fun j q1 q2 => g6 _ _ (by omega))
        · have h2 : i < a.1.1.2.2 - 1 := h2
          show MP _ (rmF a.1.2.2 p.toNat (a.1.1.2.2 - 1).toNat i.toNat)
          obtain ⟨q, hq, hq2, hq3⟩ := hpk i.toNat (by omega)
          rw [hq2]
          have h9 := hS1.2.2.2.2 q (by omega) (by omega)
          rw [Int.toNat_natCast] at h9
          refine h9.congr (hW.2.2.2.2 q (by omega)).2.1.2 (fun j q1 q2 => ?_)
          rw [g5 _ (by omega)]
          by_cases hip : p ≤ i
          · rw [if_pos (by omega), show 111 + 82 * i + j + 82 = 111 + 82 * (q : Int) + j by omega]
          · rw [if_neg (by omega), show 111 + 82 * i + j = 111 + 82 * (q : Int) + j by omega]
      · refine r_aload_n dX8_removeParagraph_42 rfl ?_
        refine q_getR fl_X8_7 dX8_removeParagraph_43 sf_290 (ro_290_0 hRO) ?_
        refine r_iload_n dX8_removeParagraph_46 rfl ?_
        refine r_aload_n dX8_removeParagraph_47 rfl ?_
        refine q_getR fl_X8_7 dX8_removeParagraph_48 sf_290 (ro_290_0 hRO) ?_
        refine r_iload_n dX8_removeParagraph_51 rfl ?_
        refine r_bipush dX8_removeParagraph_52 (by decide) ?_
        refine r_iadd dX8_removeParagraph_54 ?_
        refine q_iald dX8_removeParagraph_55 sf_291 (by omega) ?_
        rw [g5 _ (by omega), if_neg (by omega)]
        refine q_iast dX8_removeParagraph_56 sf_291 (by omega) ?_
        refine r_iinc dX8_removeParagraph_57 rfl (by decide) ?_
        dsimp only [lset]
        refine r_goto (tgt := 29) dX8_removeParagraph_60 (by decide) ?_
        refine ih _ _ (by omega) (by omega) (by omega) (by rw [u2_n (Or.inr (by omega))]; exact g4) (fun j hj0 => ?_) (fun x j h => by rw [u2_n (by omega)]; exact g6 x j h)
        rw [u2_at]
        by_cases hj : j = k
        · rw [if_pos ⟨rfl, hj⟩, if_pos (by omega), hj]
        · rw [if_neg (fun z => hj z.2), g5 j hj0]
          by_cases h3 : 111 + 82 * p ≤ j ∧ j < k
          · rw [if_pos h3, if_pos (by omega)]
          · rw [if_neg h3, if_neg (by omega)]
  refine CC_of (own := RX8) (ini := false) (by decide +kernel) rfl (fun h => absurd h (by decide)) (Nat.le_of_ble_eq_true rfl) ?_
  show WW cX8_removeParagraph RX8 3 (some .int) false 3 0 0 (PM (aRemPar a p) I R) 0 0 0 [some (.inr (some 290)), some (.inl (p)), none] [] (298, ShF, I, R)
  refine r_aload_n dX8_removeParagraph_0 rfl ?_
  refine r_iload_n dX8_removeParagraph_1 rfl ?_
  refine q_callVF lk_X8_96 dX8_removeParagraph_2 (m_isParagraph I R hRO a.1.1.2.2 hS.2.2.1 hW3 p hp) (by decide) sf_290 rfl rfl (Nat.le_of_ble_eq_true rfl) (by decide) ?_
  refine q_ifneB (tgt := 10) dX8_removeParagraph_5 (by decide) (fun h5 => ?_) (fun h5 => ?_)
  · refine r_aload_n dX8_removeParagraph_10 rfl ?_
    refine q_callVW lk_X8_47 dX8_removeParagraph_11 (m_notes I R hRO a hM) (by decide) sf_290 rfl rfl (Nat.le_of_ble_eq_true rfl) (by decide) (fun I1 hnt => ?_)
    obtain ⟨hM1, hk1⟩ := hnt
    have hS1 : AtM (I1 291) a.1 := hM1.2.1
    refine r_aload_n dX8_removeParagraph_14 rfl ?_
    refine q_getR fl_X8_7 dX8_removeParagraph_15 sf_290 (ro_290_0 hRO) ?_
    refine r_iconst dX8_removeParagraph_18 ?_
    refine r_dup2 dX8_removeParagraph_19 ?_
    refine q_iald dX8_removeParagraph_20 sf_291 (by omega) ?_
    rw [hS1.2.2.1]
    refine r_iconst dX8_removeParagraph_21 ?_
    refine r_isub dX8_removeParagraph_22 ?_
    refine q_iast dX8_removeParagraph_23 sf_291 (by omega) ?_
    refine r_iload_n dX8_removeParagraph_24 rfl ?_
    refine q_callSF lk_X8_93 dX8_removeParagraph_25 (m_own _ R p) (by decide) rfl rfl (Nat.le_of_ble_eq_true rfl) (by decide) ?_
    refine r_istore_n dX8_removeParagraph_28 (by decide) ?_
    dsimp only [lset]
    exact hloop (by omega) I1 hM1 hk1 700 _ _ (by omega) (by omega) (by omega) u2_s (fun j hj0 => by rw [if_neg (by omega)]; exact u2_n (Or.inr (by omega))) (fun x j h => u2_n (by omega))
  · refine r_iconst dX8_removeParagraph_8 ?_
    refine q_iretZ dX8_removeParagraph_9 rfl ?_
    have e : aRemPar a p = (-1, a) := by
      unfold aRemPar
      rw [if_neg (by omega)]
    rw [e]
    exact ⟨rfl, hM, fun _ _ _ => rfl⟩
set_option maxHeartbeats 4000000 in
set_option maxRecDepth 100000 in
theorem m_character (I : Mem) (R : RMem) (hRO : RefOk R) (a : AS) (hM : MI I a) (p : Int) (hp : -2147483648 ≤ p ∧ p ≤ 2147483647) (i : Int) (hi : -2147483648 ≤ i ∧ i ≤ 2147483647) : CC 3 0 0 yX8_character cX8_character 3 (some .int) [.inr (some 290), .inl (p), .inl (i)] (298, ShF, I, R) (PF (aCharQ a p i) I R) := by
  have hA := hM.1
  have hW := hA.1
  have hW1 := hW.1
  have hW2 := hW.2.1
  have hW3 := hW.2.2.1
  have hS := hM.2.1
  refine CC_of (own := RX8) (ini := false) (by decide +kernel) rfl (fun h => absurd h (by decide)) (Nat.le_of_ble_eq_true rfl) ?_
  show WW cX8_character RX8 3 (some .int) false 3 0 0 (PF (aCharQ a p i) I R) 0 0 0 [some (.inr (some 290)), some (.inl (p)), some (.inl (i))] [] (298, ShF, I, R)
  refine r_aload_n dX8_character_0 rfl ?_
  refine r_iload_n dX8_character_1 rfl ?_
  refine q_callVF lk_X8_96 dX8_character_2 (m_isParagraph I R hRO a.1.1.2.2 hS.2.2.1 hW3 p hp) (by decide) sf_290 rfl rfl (Nat.le_of_ble_eq_true rfl) (by decide) ?_
  refine q_ifeqB (tgt := 12) dX8_character_5 (by decide) (fun h5 => ?_) (fun h5 => ?_)
  · refine r_iconst dX8_character_12 ?_
    refine q_iretF dX8_character_13 rfl ?_
    unfold aCharQ
    rw [if_neg (by omega)]
  · refine r_iload_n dX8_character_8 rfl ?_
    refine r_ifge (tgt := 14) dX8_character_9 (by decide) (by omega) (fun h9 => ?_) (fun h9 => ?_)
    · refine r_iload_n dX8_character_14 rfl ?_
      refine r_aload_n dX8_character_15 rfl ?_
      refine q_getR fl_X8_7 dX8_character_16 sf_290 (ro_290_0 hRO) ?_
      refine r_iload_n dX8_character_19 rfl ?_
      have hP := hS.2.2.2.2 p (by omega) (by omega)
      have hwl := (hW.2.2.2.2 p.toNat (by omega)).2.1
      have hP1 : I 291 (111 + 82 * p + 1) = (a.1.2.2 p.toNat).2.1 := hP.2.1
      refine q_callSF lk_X8_93 dX8_character_20 (m_own I R p) (by decide) rfl rfl (Nat.le_of_ble_eq_true rfl) (by decide) ?_
      refine r_iconst dX8_character_23 ?_
      refine r_iadd dX8_character_24 ?_
      refine q_iald dX8_character_25 sf_291 (by omega) ?_
      rw [hP1]
      refine r_icmpge (tgt := 45) dX8_character_26 (by decide) (by omega) (by omega) (fun h26 => ?_) (fun h26 => ?_)
      · refine r_bipush dX8_character_45 (by decide) ?_
        refine q_iretF dX8_character_47 rfl ?_
        unfold aCharQ
        rw [if_pos (show (0 ≤ p ∧ p ≤ a.1.1.2.2 - 1) ∧ 0 ≤ i by omega)]
        first
          | (rw [if_pos (show i < (a.1.2.2 p.toNat).2.1 by omega)]
             have := hP.2.2 i (by omega) (by omega)
             dsimp only at this
             rw [show 111 + 82 * p + 2 + i = 111 + 82 * p + (2 + i) by omega]
             exact this)
          | (rw [if_neg (show ¬ i < (a.1.2.2 p.toNat).2.1 by omega)])
      · refine r_aload_n dX8_character_29 rfl ?_
        refine q_getR fl_X8_7 dX8_character_30 sf_290 (ro_290_0 hRO) ?_
        refine r_iload_n dX8_character_33 rfl ?_
        refine q_callSF lk_X8_93 dX8_character_34 (m_own I R p) (by decide) rfl rfl (Nat.le_of_ble_eq_true rfl) (by decide) ?_
        refine r_iconst dX8_character_37 ?_
        refine r_iadd dX8_character_38 ?_
        refine r_iload_n dX8_character_39 rfl ?_
        refine r_iadd dX8_character_40 ?_
        refine q_iald dX8_character_41 sf_291 (by omega) ?_
        refine r_goto (tgt := 47) dX8_character_42 (by decide) ?_
        refine q_iretF dX8_character_47 rfl ?_
        unfold aCharQ
        rw [if_pos (show (0 ≤ p ∧ p ≤ a.1.1.2.2 - 1) ∧ 0 ≤ i by omega)]
        first
          | (rw [if_pos (show i < (a.1.2.2 p.toNat).2.1 by omega)]
             have := hP.2.2 i (by omega) (by omega)
             dsimp only at this
             rw [show 111 + 82 * p + 2 + i = 111 + 82 * p + (2 + i) by omega]
             exact this)
          | (rw [if_neg (show ¬ i < (a.1.2.2 p.toNat).2.1 by omega)])
    · refine r_iconst dX8_character_12 ?_
      refine q_iretF dX8_character_13 rfl ?_
      unfold aCharQ
      rw [if_neg (by omega)]
set_option maxHeartbeats 4000000 in
set_option maxRecDepth 100000 in
theorem m_stop (I : Mem) (R : RMem) (hRO : RefOk R) (a : AS) (hM : MI I a) (s : Int) (hs : -2147483648 ≤ s ∧ s ≤ 2147483647) (k : Int) (hk : -2147483648 ≤ k ∧ k ≤ 2147483647) (w : Int) (hw : -2147483648 ≤ w ∧ w ≤ 2147483647) : CC 4 0 0 yX8_stop cX8_stop 4 (some .int) [.inr (some 290), .inl (s), .inl (k), .inl (w)] (298, ShF, I, R) (PF (aStopQ a s k w) I R) := by
  have hA := hM.1
  have hW := hA.1
  have hW1 := hW.1
  have hW2 := hW.2.1
  have hW3 := hW.2.2.1
  have hS := hM.2.1
  refine CC_of (own := RX8) (ini := false) (by decide +kernel) rfl (fun h => absurd h (by decide)) (Nat.le_of_ble_eq_true rfl) ?_
  show WW cX8_stop RX8 4 (some .int) false 4 0 0 (PF (aStopQ a s k w) I R) 0 0 0 [some (.inr (some 290)), some (.inl (s)), some (.inl (k)), some (.inl (w))] [] (298, ShF, I, R)
  refine r_iload_n dX8_stop_0 rfl ?_
  refine q_callSF lk_X8_50 dX8_stop_1 (m_isStyle I R s hs) (by decide) rfl rfl (Nat.le_of_ble_eq_true rfl) (by decide) ?_
  refine q_ifeqB (tgt := 20) dX8_stop_4 (by decide) (fun h4 => ?_) (fun h4 => ?_)
  · refine r_iconst dX8_stop_20 ?_
    refine q_iretF dX8_stop_21 rfl ?_
    unfold aStopQ
    rw [if_neg (by omega)]
  · refine r_iload_n dX8_stop_7 rfl ?_
    refine r_iflt (tgt := 20) dX8_stop_8 (by decide) (by omega) (fun h8 => ?_) (fun h8 => ?_)
    · refine r_iconst dX8_stop_20 ?_
      refine q_iretF dX8_stop_21 rfl ?_
      unfold aStopQ
      rw [if_neg (by omega)]
    · refine r_iload_n dX8_stop_11 rfl ?_
      refine r_iconst dX8_stop_12 ?_
      refine r_iconst dX8_stop_13 ?_
      refine q_callSF lk_X8_36 dX8_stop_14 (c_in I R w 0 2 hw (by decide) (by decide)) (by decide) rfl rfl (Nat.le_of_ble_eq_true rfl) (by decide) ?_
      refine q_ifneB (tgt := 22) dX8_stop_17 (by decide) (fun h17 => ?_) (fun h17 => ?_)
      · have hYs := hS.2.2.2.1 s (by omega) (by omega)
        have hwy := hW.2.2.2.1 s.toNat (by omega)
        have hcb := cntF_bd (a.1.2.1 s.toNat).2.2 80
        have h8 := hwy.2.2.2
        have hY2 : I 291 (3 + 27 * s + 2) = cntF (a.1.2.1 s.toNat).2.2 80 := hYs.2.2.1
        refine r_iload_n dX8_stop_22 rfl ?_
        refine r_aload_n dX8_stop_23 rfl ?_
        refine r_iload_n dX8_stop_24 rfl ?_
        refine r_iconst dX8_stop_25 ?_
        refine q_callVF lk_X8_44 dX8_stop_26 (m_of I R hRO s 2 (by omega)) (by decide) sf_290 rfl rfl (Nat.le_of_ble_eq_true rfl) (by decide) ?_
        rw [hY2]
        refine r_icmpge (tgt := 42) dX8_stop_29 (by decide) (by omega) (by omega) (fun h29 => ?_) (fun h29 => ?_)
        · refine r_bipush dX8_stop_42 (by decide) ?_
          refine q_iretF dX8_stop_44 rfl ?_
          unfold aStopQ
          rw [if_pos (show (0 ≤ s ∧ s ≤ 3) ∧ 0 ≤ k ∧ (0 ≤ w ∧ w ≤ 2) by omega)]
          first
            | (obtain ⟨hz1, hz2⟩ := posF_in (f := (a.1.2.1 s.toNat).2.2) (k := k) (by omega)
               have h9 := hYs.2.2.2 _ hz1
               rw [hz2] at h9
               have hzb := hz1.1
               rcases (show w = 0 ∨ w = 1 ∨ w = 2 by omega) with rfl | rfl | rfl
               · rw [if_pos (Or.inr rfl), Int.add_zero]
                 exact h9.1
               · rw [if_neg (by omega), if_pos rfl]
                 exact h9.2.1
               · rw [if_neg (by omega), if_neg (by decide)]
                 exact h9.2.2)
            | (have hpo := posF_out (f := (a.1.2.1 s.toNat).2.2) (k := k) (by omega)
               rw [hpo, if_pos (Or.inl rfl)])
        · refine r_aload_n dX8_stop_32 rfl ?_
          refine r_iload_n dX8_stop_33 rfl ?_
          refine r_iload_n dX8_stop_34 rfl ?_
          refine r_iload_n dX8_stop_35 rfl ?_
          have h8 := hwy.2.2.2
          refine q_callVF lk_X8_54 dX8_stop_36 (m_stopOf I R hRO s k w (by omega)) (by decide) sf_290 rfl rfl (Nat.le_of_ble_eq_true rfl) (by decide) ?_
          refine r_goto (tgt := 44) dX8_stop_39 (by decide) ?_
          refine q_iretF dX8_stop_44 rfl ?_
          unfold aStopQ
          rw [if_pos (show (0 ≤ s ∧ s ≤ 3) ∧ 0 ≤ k ∧ (0 ≤ w ∧ w ≤ 2) by omega)]
          first
            | (obtain ⟨hz1, hz2⟩ := posF_in (f := (a.1.2.1 s.toNat).2.2) (k := k) (by omega)
               have h9 := hYs.2.2.2 _ hz1
               rw [hz2] at h9
               have hzb := hz1.1
               rcases (show w = 0 ∨ w = 1 ∨ w = 2 by omega) with rfl | rfl | rfl
               · rw [if_pos (Or.inr rfl), Int.add_zero]
                 exact h9.1
               · rw [if_neg (by omega), if_pos rfl]
                 exact h9.2.1
               · rw [if_neg (by omega), if_neg (by decide)]
                 exact h9.2.2)
            | (have hpo := posF_out (f := (a.1.2.1 s.toNat).2.2) (k := k) (by omega)
               rw [hpo, if_pos (Or.inl rfl)])
      · refine r_iconst dX8_stop_20 ?_
        refine q_iretF dX8_stop_21 rfl ?_
        unfold aStopQ
        rw [if_neg (by omega)]
set_option maxHeartbeats 4000000 in
set_option maxRecDepth 100000 in
theorem m_lastStop (I : Mem) (R : RMem) (hRO : RefOk R) (s : Int) (hs : 0 ≤ s ∧ s ≤ 3) (hst : I 290 15 = s) (v : YV) (hY : MY (fun j => I 291 (3 + 27 * s + j)) v) (hsv : SV v.2.2) (h8 : cntF v.2.2 80 ≤ 8)  : CC 4 0 0 yX8_lastStop cX8_lastStop 3 (some .int) [.inr (some 290)] (298, ShF, I, R) (PF (lastG v.2.2 80) I R) := by
  have hY2 : I 291 (3 + 27 * s + 2) = cntF v.2.2 80 := hY.2.2.1
  have hcb := cntF_bd v.2.2 80
  have hloop : ∀ (n : Nat) (z k : Int), 8 < k + n → (0 ≤ k ∧ k ≤ cntF v.2.2 80) → ((TabF v.2.2 z ∧ cntF v.2.2 (z - 1).toNat < k) ∨ z = 0) → (∀ q : Int, TabF v.2.2 q → cntF v.2.2 (q - 1).toNat < k → q ≤ z) → WW cX8_lastStop RX8 3 (some .int) false 4 0 0 (PF (lastG v.2.2 80) I R) 0 0 4 [some (.inr (some 290)), some (.inl (z)), some (.inl (k))] [] (298, ShF, I, R) := by
    intro n
    induction n with
    | zero => intros; exfalso; omega
    | succ n ih =>
      intro z k g1 g2 g3 g4
      refine r_iload_n dX8_lastStop_4 rfl ?_
      refine r_aload_n dX8_lastStop_5 rfl ?_
      refine r_aload_n dX8_lastStop_6 rfl ?_
      refine q_getI fl_X8_119 dX8_lastStop_7 sf_290 ?_
      rw [hst]
      refine r_iconst dX8_lastStop_10 ?_
      refine q_callVF lk_X8_44 dX8_lastStop_11 (m_of I R hRO s 2 (by omega)) (by decide) sf_290 rfl rfl (Nat.le_of_ble_eq_true rfl) (by decide) ?_
      rw [hY2]
      refine r_icmpge (tgt := 52) dX8_lastStop_14 (by decide) (by omega) (by omega) (fun h14 => ?_) (fun h14 => ?_)
      · refine r_iload_n dX8_lastStop_52 rfl ?_
        refine q_iretF dX8_lastStop_53 rfl ?_
        refine lastR_G ⟨?_, fun p hp => ?_⟩
        · rcases g3 with h | h
          · exact Or.inl h.1
          · exact Or.inr h
        · have := cnt_lt (f := v.2.2) (p := p) ⟨hp.1, hp.2.1, hp.2.2.1⟩
          exact g4 p hp (by omega)
      · obtain ⟨q, hq1, hq2, hq3, hq4, -⟩ := hY.pos (k := k) (by omega)
        have hq3 : I 291 (3 + 27 * s + (3 + 3 * k)) = q := hq3
        have hq4 : I 291 (3 + 27 * s + (3 + 3 * k + 1)) = (v.2.2 q - 1) / 4 := hq4
        have hqv := hsv q hq1.1 hq1.2.1
        refine r_aload_n dX8_lastStop_17 rfl ?_
        refine r_aload_n dX8_lastStop_18 rfl ?_
        refine q_getI fl_X8_119 dX8_lastStop_19 sf_290 ?_
        rw [hst]
        refine r_iload_n dX8_lastStop_22 rfl ?_
        refine r_iconst dX8_lastStop_23 ?_
        refine q_callVF lk_X8_54 dX8_lastStop_24 (m_stopOf I R hRO s k 1 (by omega)) (by decide) sf_290 rfl rfl (Nat.le_of_ble_eq_true rfl) (by decide) ?_
        rw [hq4]
        refine r_iconst dX8_lastStop_27 ?_
        refine r_icmpge (tgt := 44) dX8_lastStop_28 (by decide) (by omega) (by omega) (fun h28 => ?_) (fun h28 => ?_)
        · refine r_iload_n dX8_lastStop_44 rfl ?_
          refine r_istore_n dX8_lastStop_45 (by decide) ?_
          dsimp only [lset]
          refine r_iinc dX8_lastStop_46 rfl (by decide) ?_
          dsimp only [lset]
          refine r_goto (tgt := 4) dX8_lastStop_49 (by decide) ?_
          first
            | (have hqt : TabF v.2.2 q := ⟨hq1.1, hq1.2.1, hq1.2.2, by omega⟩
               refine ih _ _ (by omega) (by omega) (Or.inl ⟨hqt, by omega⟩) (fun x hx hx2 => ?_)
               have hxs : StpF v.2.2 x := ⟨hx.1, hx.2.1, hx.2.2.1⟩
               by_cases hxq : q < x
               · have := cnt_inj hq1 hxs hxq
                 omega
               · omega)
            | (refine ih _ _ (by omega) (by omega) (g3.imp (fun h => ⟨h.1, by have := h.2; omega⟩) id) (fun x hx hx2 => ?_)
               have hxs : StpF v.2.2 x := ⟨hx.1, hx.2.1, hx.2.2.1⟩
               by_cases hxk : cntF v.2.2 (x - 1).toNat = k
               · have hxq := rank_eq hxs hq1 (by omega)
                 have := hx.2.2.2
                 rw [hxq] at this
                 exfalso
                 omega
               · exact g4 x hx (by omega))
        · refine r_aload_n dX8_lastStop_31 rfl ?_
          refine r_aload_n dX8_lastStop_32 rfl ?_
          refine q_getI fl_X8_119 dX8_lastStop_33 sf_290 ?_
          rw [hst]
          refine r_iload_n dX8_lastStop_36 rfl ?_
          refine r_iconst dX8_lastStop_37 ?_
          refine q_callVF lk_X8_54 dX8_lastStop_38 (m_stopOf I R hRO s k 0 (by omega)) (by decide) sf_290 rfl rfl (Nat.le_of_ble_eq_true rfl) (by decide) ?_
          rw [Int.add_zero, hq3]
          refine r_goto (tgt := 45) dX8_lastStop_41 (by decide) ?_
          refine r_istore_n dX8_lastStop_45 (by decide) ?_
          dsimp only [lset]
          refine r_iinc dX8_lastStop_46 rfl (by decide) ?_
          dsimp only [lset]
          refine r_goto (tgt := 4) dX8_lastStop_49 (by decide) ?_
          first
            | (have hqt : TabF v.2.2 q := ⟨hq1.1, hq1.2.1, hq1.2.2, by omega⟩
               refine ih _ _ (by omega) (by omega) (Or.inl ⟨hqt, by omega⟩) (fun x hx hx2 => ?_)
               have hxs : StpF v.2.2 x := ⟨hx.1, hx.2.1, hx.2.2.1⟩
               by_cases hxq : q < x
               · have := cnt_inj hq1 hxs hxq
                 omega
               · omega)
            | (refine ih _ _ (by omega) (by omega) (g3.imp (fun h => ⟨h.1, by have := h.2; omega⟩) id) (fun x hx hx2 => ?_)
               have hxs : StpF v.2.2 x := ⟨hx.1, hx.2.1, hx.2.2.1⟩
               by_cases hxk : cntF v.2.2 (x - 1).toNat = k
               · have hxq := rank_eq hxs hq1 (by omega)
                 have := hx.2.2.2
                 rw [hxq] at this
                 exfalso
                 omega
               · exact g4 x hx (by omega))
  refine CC_of (own := RX8) (ini := false) (by decide +kernel) rfl (fun h => absurd h (by decide)) (Nat.le_of_ble_eq_true rfl) ?_
  show WW cX8_lastStop RX8 3 (some .int) false 4 0 0 (PF (lastG v.2.2 80) I R) 0 0 0 [some (.inr (some 290)), none, none] [] (298, ShF, I, R)
  refine r_iconst dX8_lastStop_0 ?_
  refine r_istore_n dX8_lastStop_1 (by decide) ?_
  dsimp only [lset]
  refine r_iconst dX8_lastStop_2 ?_
  refine r_istore_n dX8_lastStop_3 (by decide) ?_
  dsimp only [lset]
  exact hloop 9 0 0 (by omega) (by omega) (Or.inr rfl) (fun q hq h => by have := (cntF_bd v.2.2 (q - 1).toNat).1; omega)
set_option maxHeartbeats 4000000 in
set_option maxRecDepth 100000 in
theorem m_defaultBehind (I : Mem) (R : RMem) (hRO : RefOk R) (D : Int) (hD : I 291 1 = D) (hD2 : 2 ≤ D ∧ D ≤ 20) (c : Int) (hc : 0 ≤ c ∧ c ≤ 100000) : CC 1 0 0 yX8_defaultBehind cX8_defaultBehind 2 (some .int) [.inr (some 290), .inl (c)] (298, ShF, I, R) (PF (dfl D c) I R) := by
  refine CC_of (own := RX8) (ini := false) (by decide +kernel) rfl (fun h => absurd h (by decide)) (Nat.le_of_ble_eq_true rfl) ?_
  show WW cX8_defaultBehind RX8 2 (some .int) false 1 0 0 (PF (dfl D c) I R) 0 0 0 [some (.inr (some 290)), some (.inl (c))] [] (298, ShF, I, R)
  refine r_iload_n dX8_defaultBehind_0 rfl ?_
  refine r_aload_n dX8_defaultBehind_1 rfl ?_
  refine q_getR fl_X8_7 dX8_defaultBehind_2 sf_290 (ro_290_0 hRO) ?_
  refine r_iconst dX8_defaultBehind_5 ?_
  refine q_iald dX8_defaultBehind_6 sf_291 (by omega) ?_
  rw [hD]
  refine r_idiv dX8_defaultBehind_7 (by omega) (by omega) ?_
  refine r_iconst dX8_defaultBehind_8 ?_
  refine r_iadd dX8_defaultBehind_9 ?_
  refine r_aload_n dX8_defaultBehind_10 rfl ?_
  refine q_getR fl_X8_7 dX8_defaultBehind_11 sf_290 (ro_290_0 hRO) ?_
  refine r_iconst dX8_defaultBehind_14 ?_
  refine q_iald dX8_defaultBehind_15 sf_291 (by omega) ?_
  rw [hD]
  refine r_imul dX8_defaultBehind_16 ?_
  refine q_iretF dX8_defaultBehind_17 rfl ?_
  rfl
theorem MI.scr {I I1 : Mem} {a : AS} (h : MI I a) (hk : ∀ (x : Nat) (j : Int), x = 291 ∨ x = 292 ∨ x = 293 ∨ (x = 290 ∧ (j = 2 ∨ j = 4)) → I1 x j = I x j) : MI I1 a := by
  refine ⟨h.1, h.2.1.congr h.1.1 (fun j _ _ => hk _ _ (by omega)), (hk _ _ (by omega)).trans h.2.2.1, fun j hj => ?_, (hk _ _ (by omega)).trans h.2.2.2.2.1, fun j h1 h2 => (hk _ _ (by omega)).trans (h.2.2.2.2.2 j h1 h2)⟩
  have ej : (fun q => I1 292 (767 * (j : Int) + q)) = fun q => I 292 (767 * (j : Int) + q) := funext fun q => hk _ _ (by omega)
  rw [ej]
  exact h.2.2.2.1 j hj
set_option maxHeartbeats 4000000 in
set_option maxRecDepth 100000 in
theorem m_style (I : Mem) (R : RMem) (hRO : RefOk R) (a : AS) (hM : MI I a) (s : Int) (hs : -2147483648 ≤ s ∧ s ≤ 2147483647) (w : Int) (hw : -2147483648 ≤ w ∧ w ≤ 2147483647) : CC 5 0 0 yX8_style cX8_style 3 (some .int) [.inr (some 290), .inl (s), .inl (w)] (298, ShF, I, R) (PM (aStyleQ a s w, a) I R) := by
  have hA := hM.1
  have hW := hA.1
  have hW1 := hW.1
  have hW2 := hW.2.1
  have hW3 := hW.2.2.1
  have hS := hM.2.1
  refine CC_of (own := RX8) (ini := false) (by decide +kernel) rfl (fun h => absurd h (by decide)) (Nat.le_of_ble_eq_true rfl) ?_
  show WW cX8_style RX8 3 (some .int) false 5 0 0 (PM (aStyleQ a s w, a) I R) 0 0 0 [some (.inr (some 290)), some (.inl (s)), some (.inl (w))] [] (298, ShF, I, R)
  refine r_iload_n dX8_style_0 rfl ?_
  refine q_callSF lk_X8_50 dX8_style_1 (m_isStyle I R s hs) (by decide) rfl rfl (Nat.le_of_ble_eq_true rfl) (by decide) ?_
  refine q_ifeqB (tgt := 16) dX8_style_4 (by decide) (fun h4 => ?_) (fun h4 => ?_)
  · refine r_iconst dX8_style_16 ?_
    refine q_iretZ dX8_style_17 rfl ?_
    refine ⟨?_, hM, fun _ _ _ => rfl⟩
    show -1 = aStyleQ a s w
    unfold aStyleQ
    by_cases h : 0 ≤ s ∧ s ≤ 3
    · rw [if_pos h, if_neg (by omega), if_neg (by omega), if_neg (by omega), if_neg (by omega)]
    · rw [if_neg h]
  · refine r_iload_n dX8_style_7 rfl ?_
    refine r_iconst dX8_style_8 ?_
    refine r_iconst dX8_style_9 ?_
    refine q_callSF lk_X8_36 dX8_style_10 (c_in I R w 0 3 hw (by decide) (by decide)) (by decide) rfl rfl (Nat.le_of_ble_eq_true rfl) (by decide) ?_
    refine q_ifneB (tgt := 18) dX8_style_13 (by decide) (fun h13 => ?_) (fun h13 => ?_)
    · have hYs := hS.2.2.2.1 s (by omega) (by omega)
      have hwy := hW.2.2.2.1 s.toNat (by omega)
      have hcb := cntF_bd (a.1.2.1 s.toNat).2.2 80
      have h8 := hwy.2.2.2
      have hY2 : I 291 (3 + 27 * s + 2) = cntF (a.1.2.1 s.toNat).2.2 80 := hYs.2.2.1
      refine r_aload_n dX8_style_18 rfl ?_
      refine r_iload_n dX8_style_19 rfl ?_
      refine q_putI fl_X8_119 dX8_style_20 sf_290 ?_
      refine r_iload_n dX8_style_23 rfl ?_
      refine r_iconst dX8_style_24 ?_
      refine r_icmpge (tgt := 37) dX8_style_25 (by decide) (by omega) (by omega) (fun h25 => ?_) (fun h25 => ?_)
      · refine r_aload_n dX8_style_37 rfl ?_
        refine r_aload_n dX8_style_38 rfl ?_
        have h90 : u2 I 290 15 s 290 15 = s := u2_s
        have hY5 : MY (fun j => u2 I 290 15 s 291 (3 + 27 * s + j)) (a.1.2.1 s.toNat) := hYs.congr hwy.2.2.2 (fun j _ _ => u2_n (Or.inl (by decide)))
        have hlb := lastG_bd (a.1.2.1 s.toNat).2.2 80
        refine q_callVF lk_X8_156 dX8_style_39 (m_lastStop _ R hRO s (by omega) h90 _ hY5 hwy.2.2.1 hwy.2.2.2) (by decide) sf_290 rfl rfl (Nat.le_of_ble_eq_true rfl) (by decide) ?_
        refine q_callVF lk_X8_159 dX8_style_42 (m_defaultBehind _ R hRO a.1.1.2.1 ((u2_n (Or.inl (by decide))).trans hS.2.1) hW2 _ (by omega)) (by decide) sf_290 rfl rfl (Nat.le_of_ble_eq_true rfl) (by decide) ?_
        refine q_iretZ dX8_style_45 rfl ?_
        refine ⟨?_, hM.scr (fun x j h => u2_n (by omega)), fun x j h => u2_n (Or.inl (by omega))⟩
        show _ = aStyleQ a s w
        unfold aStyleQ
        rw [if_pos (show 0 ≤ s ∧ s ≤ 3 by omega)]
        first
          | (rcases (show w = 0 ∨ w = 1 ∨ w = 2 by omega) with rfl | rfl | rfl
             · rw [if_pos rfl, u2_n (Or.inl (by decide))]; exact hYs.1
             · rw [if_neg (by decide), if_pos rfl, u2_n (Or.inl (by decide))]; exact hYs.2.1
             · rw [if_neg (by decide), if_neg (by decide), if_pos rfl, u2_n (Or.inl (by decide))]; exact hYs.2.2.1)
          | (rw [if_neg (by omega), if_neg (by omega), if_neg (by omega), if_pos (by omega)])
      · refine r_aload_n dX8_style_28 rfl ?_
        refine r_iload_n dX8_style_29 rfl ?_
        refine r_iload_n dX8_style_30 rfl ?_
        refine q_callVF lk_X8_44 dX8_style_31 (m_of _ R hRO s w (by omega)) (by decide) sf_290 rfl rfl (Nat.le_of_ble_eq_true rfl) (by decide) ?_
        refine r_goto (tgt := 45) dX8_style_34 (by decide) ?_
        refine q_iretZ dX8_style_45 rfl ?_
        refine ⟨?_, hM.scr (fun x j h => u2_n (by omega)), fun x j h => u2_n (Or.inl (by omega))⟩
        show _ = aStyleQ a s w
        unfold aStyleQ
        rw [if_pos (show 0 ≤ s ∧ s ≤ 3 by omega)]
        first
          | (rcases (show w = 0 ∨ w = 1 ∨ w = 2 by omega) with rfl | rfl | rfl
             · rw [if_pos rfl, u2_n (Or.inl (by decide))]; exact hYs.1
             · rw [if_neg (by decide), if_pos rfl, u2_n (Or.inl (by decide))]; exact hYs.2.1
             · rw [if_neg (by decide), if_neg (by decide), if_pos rfl, u2_n (Or.inl (by decide))]; exact hYs.2.2.1)
          | (rw [if_neg (by omega), if_neg (by omega), if_neg (by omega), if_pos (by omega)])
    · refine r_iconst dX8_style_16 ?_
      refine q_iretZ dX8_style_17 rfl ?_
      refine ⟨?_, hM, fun _ _ _ => rfl⟩
      show -1 = aStyleQ a s w
      unfold aStyleQ
      by_cases h : 0 ≤ s ∧ s ≤ 3
      · rw [if_pos h, if_neg (by omega), if_neg (by omega), if_neg (by omega), if_neg (by omega)]
      · rw [if_neg h]
