/-! the other object's stops -/
theorem cntF_up (f : Int → Int) {p v : Int} (hp : 1 ≤ p) (hv : v ≠ 0) : ∀ n : Nat, cntF (upF f p v) n = cntF f n + (if f p = 0 ∧ p ≤ n then 1 else 0)
  | 0 => by
    rw [if_neg (by omega)]
    rfl
  | n + 1 => by
    have ih := cntF_up f hp hv n
    show cntF (upF f p v) n + (if upF f p v ((n : Int) + 1) = 0 then 0 else 1) = cntF f n + (if f ((n : Int) + 1) = 0 then 0 else 1) + (if f p = 0 ∧ p ≤ ((n + 1 : Nat) : Int) then 1 else 0)
    rw [ih]
    by_cases hn : (n : Int) + 1 = p
    · have e : upF f p v ((n : Int) + 1) = v := if_pos hn
      rw [e, if_neg hv, hn, if_neg (show ¬ (f p = 0 ∧ p ≤ (n : Int)) by omega)]
      by_cases hf : f p = 0
      · rw [if_pos hf, if_pos ⟨hf, by omega⟩]
        try omega
      · rw [if_neg hf, if_neg (fun h => hf h.1)]
        try omega
    · have e : upF f p v ((n : Int) + 1) = f ((n : Int) + 1) := if_neg hn
      rw [e]
      by_cases hf : f p = 0 ∧ p ≤ (n : Int)
      · rw [if_pos hf, if_pos (show f p = 0 ∧ p ≤ ((n + 1 : Nat) : Int) from ⟨hf.1, by omega⟩)]
        omega
      · rw [if_neg hf, if_neg (show ¬ (f p = 0 ∧ p ≤ ((n + 1 : Nat) : Int)) by omega)]
        omega
theorem cntF_rm (f : Int → Int) {p : Int} (hp : 1 ≤ p) : ∀ n : Nat, cntF (upF f p 0) n = cntF f n - (if f p ≠ 0 ∧ p ≤ n then 1 else 0)
  | 0 => by
    rw [if_neg (by omega)]
    rfl
  | n + 1 => by
    have ih := cntF_rm f hp n
    show cntF (upF f p 0) n + (if upF f p 0 ((n : Int) + 1) = 0 then 0 else 1) = cntF f n + (if f ((n : Int) + 1) = 0 then 0 else 1) - (if f p ≠ 0 ∧ p ≤ ((n + 1 : Nat) : Int) then 1 else 0)
    rw [ih]
    by_cases hn : (n : Int) + 1 = p
    · have e : upF f p 0 ((n : Int) + 1) = 0 := if_pos hn
      rw [e, if_pos rfl, hn, if_neg (show ¬ (f p ≠ 0 ∧ p ≤ (n : Int)) by omega)]
      by_cases hf : f p = 0
      · rw [if_pos hf, if_neg (fun h => h.1 hf)]
        try omega
      · rw [if_neg hf, if_pos ⟨hf, by omega⟩]
        try omega
    · have e : upF f p 0 ((n : Int) + 1) = f ((n : Int) + 1) := if_neg hn
      rw [e]
      by_cases hf : f p ≠ 0 ∧ p ≤ (n : Int)
      · rw [if_pos hf, if_pos (show f p ≠ 0 ∧ p ≤ ((n + 1 : Nat) : Int) from ⟨hf.1, by omega⟩)]
        omega
      · rw [if_neg hf, if_neg (show ¬ (f p ≠ 0 ∧ p ≤ ((n + 1 : Nat) : Int)) by omega)]
        omega
theorem MY.pos {y : Int → Int} {v : YV} (h : MY y v) {k : Int} (hk : 0 ≤ k ∧ k < cntF v.2.2 80) : ∃ q : Int, StpF v.2.2 q ∧ cntF v.2.2 (q - 1).toNat = k ∧ y (3 + 3 * k) = q ∧ y (3 + 3 * k + 1) = (v.2.2 q - 1) / 4 ∧ y (3 + 3 * k + 2) = (v.2.2 q - 1) % 4 := by
  obtain ⟨q, h1, -, h3⟩ := cnt_surj 80 (Nat.le_refl _) hk.1 hk.2
  have h4 := h.2.2.2 q h1
  rw [h3] at h4
  exact ⟨q, h1, h3, h4⟩
theorem rank_eq {f : Int → Int} {p q : Int} (hp : StpF f p) (hq : StpF f q) (h : cntF f (p - 1).toNat = cntF f (q - 1).toNat) : p = q := by
  by_cases h1 : p < q
  · have := cnt_inj hp hq h1
    omega
  · by_cases h2 : q < p
    · have := cnt_inj hq hp h2
      omega
    · omega
set_option maxHeartbeats 4000000 in
set_option maxRecDepth 100000 in
theorem m_hasStop (I : Mem) (R : RMem) (hRO : RefOk R) (s : Int) (hs : 0 ≤ s ∧ s ≤ 3) (v : YV) (hY : MY (fun j => I 291 (3 + 27 * s + j)) v) (h8 : cntF v.2.2 80 ≤ 8) (p : Int) (hp : 1 ≤ p ∧ p ≤ 80) : CC 4 0 0 yX8_hasStop cX8_hasStop 5 (some .boolean) [.inr (some 290), .inl (s), .inl (p)] (298, ShF, I, R) (PF (b2i (v.2.2 p ≠ 0)) I R) := by
  have hY2 : I 291 (3 + 27 * s + 2) = cntF v.2.2 80 := hY.2.2.1
  have hcb := cntF_bd v.2.2 80
  have hloop : ∀ (n : Nat) (h k : Int), 9 < k + n → (0 ≤ k ∧ k ≤ cntF v.2.2 80) → ((h = 1 ∧ v.2.2 p ≠ 0 ∧ cntF v.2.2 (p - 1).toNat < k) ∨ (h = 0 ∧ ¬ (v.2.2 p ≠ 0 ∧ cntF v.2.2 (p - 1).toNat < k))) → WW cX8_hasStop RX8 5 (some .boolean) false 4 0 0 (PF (b2i (v.2.2 p ≠ 0)) I R) 0 0 5 [some (.inr (some 290)), some (.inl (s)), some (.inl (p)), some (.inl (h)), some (.inl (k))] [] (298, ShF, I, R) := by
    intro n
    induction n with
    | zero => intros; exfalso; omega
    | succ n ih =>
      intro h k g1 g2 g3
      refine r_iload dX8_hasStop_5 rfl ?_
      refine r_aload_n dX8_hasStop_7 rfl ?_
      refine r_iload_n dX8_hasStop_8 rfl ?_
      refine r_iconst dX8_hasStop_9 ?_
      refine q_callVF lk_X8_44 dX8_hasStop_10 (m_of I R hRO s 2 (by omega)) (by decide) sf_290 rfl rfl (Nat.le_of_ble_eq_true rfl) (by decide) ?_
      rw [hY2]
      refine r_icmpge (tgt := 44) dX8_hasStop_13 (by decide) (by omega) (by omega) (fun h13 => ?_) (fun h13 => ?_)
      · refine r_iload_n dX8_hasStop_44 rfl ?_
        refine q_zretF dX8_hasStop_45 rfl (by omega) ?_
        by_cases hf : v.2.2 p ≠ 0
        · have := cnt_lt (f := v.2.2) (p := p) ⟨hp.1, hp.2, hf⟩
          rw [← b2i_t hf]
          omega
        · rw [← b2i_f hf]
          omega
      · obtain ⟨q, hq1, hq2, hq3, -, -⟩ := hY.pos (k := k) (by omega)
        have hq3 : I 291 (3 + 27 * s + (3 + 3 * k)) = q := hq3
        have hqb := hq1.1
        have hqb2 := hq1.2.1
        refine r_iload_n dX8_hasStop_16 rfl ?_
        refine r_ifne (tgt := 32) dX8_hasStop_17 (by decide) (by omega) (fun h17 => ?_) (fun h17 => ?_)
        · refine r_iconst dX8_hasStop_32 ?_
          refine r_goto (tgt := 37) dX8_hasStop_33 (by decide) ?_
          refine r_istore_n dX8_hasStop_37 (by decide) ?_
          dsimp only [lset]
          refine r_iinc dX8_hasStop_38 rfl (by decide) ?_
          dsimp only [lset]
          refine r_goto (tgt := 5) dX8_hasStop_41 (by decide) ?_
          exact ih _ _ (by omega) (by omega) (by
            first
            | (left; exact ⟨rfl, by omega, by omega⟩)
            | (left
               have hqp : q = p := by omega
               rw [hqp] at hq1 hq2
               exact ⟨rfl, hq1.2.2, by omega⟩)
            | (right
               refine ⟨rfl, fun hh => ?_⟩
               have hpp : StpF v.2.2 p := ⟨hp.1, hp.2, hh.1⟩
               have hne : cntF v.2.2 (p - 1).toNat ≠ k := fun e => by
                 have := rank_eq hpp hq1 (by omega)
                 omega
               omega))
        · refine r_aload_n dX8_hasStop_20 rfl ?_
          refine r_iload_n dX8_hasStop_21 rfl ?_
          refine r_iload dX8_hasStop_22 rfl ?_
          refine r_iconst dX8_hasStop_24 ?_
          refine q_callVF lk_X8_54 dX8_hasStop_25 (m_stopOf I R hRO s k 0 (by omega)) (by decide) sf_290 rfl rfl (Nat.le_of_ble_eq_true rfl) (by decide) ?_
          rw [Int.add_zero, hq3]
          refine r_iload_n dX8_hasStop_28 rfl ?_
          refine r_icmpne (tgt := 36) dX8_hasStop_29 (by decide) (by omega) (by omega) (fun h29 => ?_) (fun h29 => ?_)
          · refine r_iconst dX8_hasStop_36 ?_
            refine r_istore_n dX8_hasStop_37 (by decide) ?_
            dsimp only [lset]
            refine r_iinc dX8_hasStop_38 rfl (by decide) ?_
            dsimp only [lset]
            refine r_goto (tgt := 5) dX8_hasStop_41 (by decide) ?_
            exact ih _ _ (by omega) (by omega) (by
              first
              | (left; exact ⟨rfl, by omega, by omega⟩)
              | (left
                 have hqp : q = p := by omega
                 rw [hqp] at hq1 hq2
                 exact ⟨rfl, hq1.2.2, by omega⟩)
              | (right
                 refine ⟨rfl, fun hh => ?_⟩
                 have hpp : StpF v.2.2 p := ⟨hp.1, hp.2, hh.1⟩
                 have hne : cntF v.2.2 (p - 1).toNat ≠ k := fun e => by
                   have := rank_eq hpp hq1 (by omega)
                   omega
                 omega))
          · refine r_iconst dX8_hasStop_32 ?_
            refine r_goto (tgt := 37) dX8_hasStop_33 (by decide) ?_
            refine r_istore_n dX8_hasStop_37 (by decide) ?_
            dsimp only [lset]
            refine r_iinc dX8_hasStop_38 rfl (by decide) ?_
            dsimp only [lset]
            refine r_goto (tgt := 5) dX8_hasStop_41 (by decide) ?_
            exact ih _ _ (by omega) (by omega) (by
              first
              | (left; exact ⟨rfl, by omega, by omega⟩)
              | (left
                 have hqp : q = p := by omega
                 rw [hqp] at hq1 hq2
                 exact ⟨rfl, hq1.2.2, by omega⟩)
              | (right
                 refine ⟨rfl, fun hh => ?_⟩
                 have hpp : StpF v.2.2 p := ⟨hp.1, hp.2, hh.1⟩
                 have hne : cntF v.2.2 (p - 1).toNat ≠ k := fun e => by
                   have := rank_eq hpp hq1 (by omega)
                   omega
                 omega))
  refine CC_of (own := RX8) (ini := false) (by decide +kernel) rfl (fun h => absurd h (by decide)) (Nat.le_of_ble_eq_true rfl) ?_
  show WW cX8_hasStop RX8 5 (some .boolean) false 4 0 0 (PF (b2i (v.2.2 p ≠ 0)) I R) 0 0 0 [some (.inr (some 290)), some (.inl (s)), some (.inl (p)), none, none] [] (298, ShF, I, R)
  refine r_iconst dX8_hasStop_0 ?_
  refine r_istore_n dX8_hasStop_1 (by decide) ?_
  dsimp only [lset]
  refine r_iconst dX8_hasStop_2 ?_
  refine r_istore dX8_hasStop_3 (by decide) ?_
  dsimp only [lset]
  exact hloop 10 _ _ (by omega) (by omega) (Or.inr ⟨rfl, fun h => by have := (cntF_bd v.2.2 (p - 1).toNat).1; omega⟩)
set_option maxHeartbeats 4000000 in
set_option maxRecDepth 100000 in
theorem m_puts (I : Mem) (R : RMem) (hRO : RefOk R) (s : Int) (hs : 0 ≤ s ∧ s ≤ 3) (v : YV) (hY : MY (fun j => I 291 (3 + 27 * s + j)) v) (h8 : cntF v.2.2 80 ≤ 8) (p kd le : Int) (hp : 1 ≤ p ∧ p ≤ 80) (hkd : 0 ≤ kd ∧ kd ≤ 4) (hle : 0 ≤ le ∧ le ≤ 3) (hroom : v.2.2 p = 0 → cntF v.2.2 80 < 8) : CC 4 0 0 yX8_puts cX8_puts 8 (some .int) [.inr (some 290), .inl (s), .inl (p), .inl (kd), .inl (le)] (298, ShF, I, R) (PZ R (fun z I1 => z = cntF v.2.2 (p - 1).toNat ∧ MY (fun j => I1 291 (3 + 27 * s + j)) (v.1, v.2.1, (upF v.2.2 p (1 + kd * 4 + le))) ∧ (∀ (x : Nat) (q : Int), ¬ (x = 291 ∧ 3 + 27 * s + 2 ≤ q ∧ q < 3 + 27 * s + 27) → I1 x q = I x q))) := by
  have hY2 : I 291 (3 + 27 * s + 2) = cntF v.2.2 80 := hY.2.2.1
  have hcb := cntF_bd v.2.2 80
  have hrb := cntF_bd v.2.2 (p - 1).toNat
  have hrm := cntF_mono v.2.2 (m := (p - 1).toNat) (n := 80) (by omega)
  have hup := fun n : Nat => cntF_up v.2.2 (p := p) (v := 1 + kd * 4 + le) hp.1 (by omega) n
  have hup1 : cntF (upF v.2.2 p (1 + kd * 4 + le)) (p - 1).toNat = cntF v.2.2 (p - 1).toNat := by rw [hup, if_neg (by omega)]; omega
  have hsp : StpF (upF v.2.2 p (1 + kd * 4 + le)) p := ⟨hp.1, hp.2, by show upF v.2.2 p _ p ≠ 0; unfold upF; rw [if_pos rfl]; omega⟩
  have hsq : ∀ q : Int, StpF (upF v.2.2 p (1 + kd * 4 + le)) q → q ≠ p → StpF v.2.2 q := fun q h1 h2 => ⟨h1.1, h1.2.1, by have h3 := h1.2.2; unfold upF at h3; rw [if_neg h2] at h3; exact h3⟩
  generalize hr : cntF v.2.2 (p - 1).toNat = r at hrb hrm hup1
  have htail : ∀ (I2 : Mem) (u6 u7 : Option MV), I2 291 (3 + 27 * s + 0) = v.1 → I2 291 (3 + 27 * s + 1) = v.2.1 → I2 291 (3 + 27 * s + 2) = cntF (upF v.2.2 p (1 + kd * 4 + le)) 80 → (∀ q : Int, StpF v.2.2 q → q ≠ p → I2 291 (3 + 27 * s + (3 + 3 * cntF (upF v.2.2 p (1 + kd * 4 + le)) (q - 1).toNat)) = q ∧ I2 291 (3 + 27 * s + (3 + 3 * cntF (upF v.2.2 p (1 + kd * 4 + le)) (q - 1).toNat + 1)) = (v.2.2 q - 1) / 4 ∧ I2 291 (3 + 27 * s + (3 + 3 * cntF (upF v.2.2 p (1 + kd * 4 + le)) (q - 1).toNat + 2)) = (v.2.2 q - 1) % 4) → (∀ (x : Nat) (q : Int), ¬ (x = 291 ∧ 3 + 27 * s + 2 ≤ q ∧ q < 3 + 27 * s + 27) → I2 x q = I x q) → (0 ≤ r ∧ r ≤ 7) → WW cX8_puts RX8 8 (some .int) false 4 0 0 (PZ R (fun z I1 => z = r ∧ MY (fun j => I1 291 (3 + 27 * s + j)) (v.1, v.2.1, (upF v.2.2 p (1 + kd * 4 + le))) ∧ (∀ (x : Nat) (q : Int), ¬ (x = 291 ∧ 3 + 27 * s + 2 ≤ q ∧ q < 3 + 27 * s + 27) → I1 x q = I x q))) 0 0 138 [some (.inr (some 290)), some (.inl s), some (.inl p), some (.inl kd), some (.inl le), some (.inl r), u6, u7] [] (298, ShF, I2, R) := by
    intro I2 u6 u7 g1 g2 g3 g4 g5 g6
    refine r_aload_n dX8_puts_138 rfl ?_
    refine q_getR fl_X8_7 dX8_puts_139 sf_290 (ro_290_0 hRO) ?_
    refine r_iload_n dX8_puts_142 rfl ?_
    refine r_iconst dX8_puts_143 ?_
    refine r_iconst dX8_puts_144 ?_
    refine r_iload dX8_puts_145 rfl ?_
    refine r_imul dX8_puts_147 ?_
    refine r_iadd dX8_puts_148 ?_
    refine q_callSF lk_X8_40 dX8_puts_149 (m_placeOf _ R s (3 + 3 * r)) (by decide) rfl rfl (Nat.le_of_ble_eq_true rfl) (by decide) ?_
    refine r_iload_n dX8_puts_152 rfl ?_
    refine q_iast dX8_puts_153 sf_291 (by omega) ?_
    refine r_aload_n dX8_puts_154 rfl ?_
    refine q_getR fl_X8_7 dX8_puts_155 sf_290 (ro_290_0 hRO) ?_
    refine r_iload_n dX8_puts_158 rfl ?_
    refine r_iconst dX8_puts_159 ?_
    refine r_iconst dX8_puts_160 ?_
    refine r_iload dX8_puts_161 rfl ?_
    refine r_imul dX8_puts_163 ?_
    refine r_iadd dX8_puts_164 ?_
    refine r_iconst dX8_puts_165 ?_
    refine r_iadd dX8_puts_166 ?_
    refine q_callSF lk_X8_40 dX8_puts_167 (m_placeOf _ R s (3 + 3 * r + 1)) (by decide) rfl rfl (Nat.le_of_ble_eq_true rfl) (by decide) ?_
    refine r_iload_n dX8_puts_170 rfl ?_
    refine q_iast dX8_puts_171 sf_291 (by omega) ?_
    refine r_aload_n dX8_puts_172 rfl ?_
    refine q_getR fl_X8_7 dX8_puts_173 sf_290 (ro_290_0 hRO) ?_
    refine r_iload_n dX8_puts_176 rfl ?_
    refine r_iconst dX8_puts_177 ?_
    refine r_iconst dX8_puts_178 ?_
    refine r_iload dX8_puts_179 rfl ?_
    refine r_imul dX8_puts_181 ?_
    refine r_iadd dX8_puts_182 ?_
    refine r_iconst dX8_puts_183 ?_
    refine r_iadd dX8_puts_184 ?_
    refine q_callSF lk_X8_40 dX8_puts_185 (m_placeOf _ R s (3 + 3 * r + 2)) (by decide) rfl rfl (Nat.le_of_ble_eq_true rfl) (by decide) ?_
    refine r_iload dX8_puts_188 rfl ?_
    refine q_iast dX8_puts_190 sf_291 (by omega) ?_
    refine r_iload dX8_puts_191 rfl ?_
    refine q_iretZ dX8_puts_193 rfl ?_
    have hk : ∀ q : Int, q ≠ 3 + 27 * s + (3 + 3 * r) → q ≠ 3 + 27 * s + (3 + 3 * r + 1) → q ≠ 3 + 27 * s + (3 + 3 * r + 2) → u2 (u2 (u2 I2 291 (3 + 27 * s + (3 + 3 * r)) p) 291 (3 + 27 * s + (3 + 3 * r + 1)) kd) 291 (3 + 27 * s + (3 + 3 * r + 2)) le 291 q = I2 291 q := fun q h1 h2 h3 => by rw [u2_n (Or.inr h3), u2_n (Or.inr h2), u2_n (Or.inr h1)]
    refine ⟨rfl, ⟨?_, ?_, ?_, fun q hq => ?_⟩, fun x q h => ?_⟩
    · exact (hk _ (by omega) (by omega) (by omega)).trans g1
    · exact (hk _ (by omega) (by omega) (by omega)).trans g2
    · exact (hk _ (by omega) (by omega) (by omega)).trans g3
    · have hq : StpF (upF v.2.2 p (1 + kd * 4 + le)) q := hq
      show u2 (u2 (u2 I2 291 (3 + 27 * s + (3 + 3 * r)) p) 291 (3 + 27 * s + (3 + 3 * r + 1)) kd) 291 (3 + 27 * s + (3 + 3 * r + 2)) le 291 (3 + 27 * s + (3 + 3 * cntF (upF v.2.2 p (1 + kd * 4 + le)) (q - 1).toNat)) = q ∧ u2 (u2 (u2 I2 291 (3 + 27 * s + (3 + 3 * r)) p) 291 (3 + 27 * s + (3 + 3 * r + 1)) kd) 291 (3 + 27 * s + (3 + 3 * r + 2)) le 291 (3 + 27 * s + (3 + 3 * cntF (upF v.2.2 p (1 + kd * 4 + le)) (q - 1).toNat + 1)) = ((upF v.2.2 p (1 + kd * 4 + le)) q - 1) / 4 ∧ u2 (u2 (u2 I2 291 (3 + 27 * s + (3 + 3 * r)) p) 291 (3 + 27 * s + (3 + 3 * r + 1)) kd) 291 (3 + 27 * s + (3 + 3 * r + 2)) le 291 (3 + 27 * s + (3 + 3 * cntF (upF v.2.2 p (1 + kd * 4 + le)) (q - 1).toNat + 2)) = ((upF v.2.2 p (1 + kd * 4 + le)) q - 1) % 4
      by_cases hqp : q = p
      · subst hqp
        rw [hup1]
        have e : (upF v.2.2 q (1 + kd * 4 + le)) q = 1 + kd * 4 + le := if_pos rfl
        rw [e]
        refine ⟨?_, ?_, ?_⟩
        · rw [u2_n (Or.inr (by omega)), u2_n (Or.inr (by omega)), u2_s]
        · rw [u2_n (Or.inr (by omega)), u2_s]
          omega
        · rw [u2_s]
          omega
      · have h1 := g4 q (hsq q hq hqp) hqp
        have h2 : cntF (upF v.2.2 p (1 + kd * 4 + le)) (q - 1).toNat ≠ r := fun e => hqp (rank_eq hq hsp (e.trans hup1.symm))
        have e : (upF v.2.2 p (1 + kd * 4 + le)) q = v.2.2 q := if_neg hqp
        rw [e, hk _ (by omega) (by omega) (by omega), hk _ (by omega) (by omega) (by omega), hk _ (by omega) (by omega) (by omega)]
        exact h1
    · rw [u2_n (by omega), u2_n (by omega), u2_n (by omega)]
      exact g5 x q h
  have hmove : v.2.2 p = 0 → ∀ (n : Nat) (k : Int) (I1 : Mem), k < 3 * r + 2 + n → 3 * r + 2 ≤ k → k ≤ 3 * cntF v.2.2 80 + 2 → (∀ j : Int, I1 291 (3 + 27 * s + (3 + j)) = if k < j ∧ j ≤ 3 * cntF v.2.2 80 + 2 then I 291 (3 + 27 * s + (3 + (j - 3))) else I 291 (3 + 27 * s + (3 + j))) → (∀ (x : Nat) (q : Int), ¬ (x = 291 ∧ 3 + 27 * s + 3 + 3 * r + 3 ≤ q ∧ q < 3 + 27 * s + 27) → I1 x q = I x q) → WW cX8_puts RX8 8 (some .int) false 4 0 0 (PZ R (fun z I1 => z = r ∧ MY (fun j => I1 291 (3 + 27 * s + j)) (v.1, v.2.1, (upF v.2.2 p (1 + kd * 4 + le))) ∧ (∀ (x : Nat) (q : Int), ¬ (x = 291 ∧ 3 + 27 * s + 2 ≤ q ∧ q < 3 + 27 * s + 27) → I1 x q = I x q))) 0 0 79 [some (.inr (some 290)), some (.inl s), some (.inl p), some (.inl kd), some (.inl le), some (.inl r), some (.inl 0), some (.inl k)] [] (298, ShF, I1, R) := by
    intro hf n
    have hn7 := hroom hf
    induction n with
    | zero => intros; exfalso; omega
    | succ n ih =>
      intro k I1 g1 g2 g3 g4 g5
      refine r_iload dX8_puts_79 rfl ?_
      refine r_iconst dX8_puts_81 ?_
      refine r_iload dX8_puts_82 rfl ?_
      refine r_imul dX8_puts_84 ?_
      refine r_iconst dX8_puts_85 ?_
      refine r_iadd dX8_puts_86 ?_
      refine r_icmplt (tgt := 124) dX8_puts_87 (by decide) (by omega) (by omega) (fun h87 => ?_) (fun h87 => ?_)
      · refine r_aload_n dX8_puts_124 rfl ?_
        refine q_getR fl_X8_7 dX8_puts_125 sf_290 (ro_290_0 hRO) ?_
        refine r_iload_n dX8_puts_128 rfl ?_
        refine r_iconst dX8_puts_129 ?_
        refine q_callSF lk_X8_40 dX8_puts_130 (m_placeOf _ R s 2) (by decide) rfl rfl (Nat.le_of_ble_eq_true rfl) (by decide) ?_
        refine r_dup2 dX8_puts_133 ?_
        refine q_iald dX8_puts_134 sf_291 (by omega) ?_
        have hrd2 : I1 291 (3 + 27 * s + 2) = cntF v.2.2 80 := (g5 _ _ (by omega)).trans hY2
        rw [hrd2]
        refine r_iconst dX8_puts_135 ?_
        refine r_iadd dX8_puts_136 ?_
        refine q_iast dX8_puts_137 sf_291 (by omega) ?_
        have hk2 : k = 3 * r + 2 := by omega
        have h80 := hup 80
        rw [if_pos (show v.2.2 p = 0 ∧ p ≤ ((80 : Nat) : Int) by omega)] at h80
        have hr7 : r ≤ 7 := by omega
        refine htail _ _ _ ?_ ?_ ?_ (fun q hq hqp => ?_) (fun x q h => by rw [u2_n (by omega)]; exact g5 x q (by omega)) (by omega)
        · rw [u2_n (Or.inr (by omega)), g5 _ _ (by omega)]; exact hY.1
        · rw [u2_n (Or.inr (by omega)), g5 _ _ (by omega)]; exact hY.2.1
        · rw [u2_s, h80]
        · have h1 := hY.2.2.2 q hq
          have h2 := cnt_lt hq
          have h3 := (cntF_bd v.2.2 (q - 1).toNat).1
          have h4 := hup (q - 1).toNat
          have hqb := hq.1
          have hqn : (((q - 1).toNat : Nat) : Int) = q - 1 := by omega
          have hrd : ∀ w : Int, 0 ≤ w → w ≤ 2 → u2 I1 291 (3 + 27 * s + 2) (cntF v.2.2 80 + 1) 291 (3 + 27 * s + (3 + (3 * cntF (upF v.2.2 p (1 + kd * 4 + le)) (q - 1).toNat + w))) = I 291 (3 + 27 * s + (3 + (3 * cntF v.2.2 (q - 1).toNat + w))) := fun w w1 w2 => by
            rw [u2_n (Or.inr (by omega)), g4]
            by_cases hpq : p ≤ q - 1
            · rw [if_pos (show v.2.2 p = 0 ∧ p ≤ (((q - 1).toNat : Nat) : Int) by omega)] at h4
              have h6 := cntF_mono v.2.2 (m := (p - 1).toNat) (n := (q - 1).toNat) (by omega)
              rw [if_pos (by omega), show 3 * cntF (upF v.2.2 p (1 + kd * 4 + le)) (q - 1).toNat + w - 3 = 3 * cntF v.2.2 (q - 1).toNat + w by omega]
            · rw [if_neg (show ¬ (v.2.2 p = 0 ∧ p ≤ (((q - 1).toNat : Nat) : Int)) by omega)] at h4
              have h5 := cntF_step v.2.2 (p := q) hqb
              rw [if_neg hq.2.2] at h5
              have h6 := cntF_mono v.2.2 (m := q.toNat) (n := (p - 1).toNat) (by omega)
              rw [if_neg (by omega), show cntF (upF v.2.2 p (1 + kd * 4 + le)) (q - 1).toNat = cntF v.2.2 (q - 1).toNat by omega]
          refine ⟨?_, ?_, ?_⟩
          · have := hrd 0 (by omega) (by omega)
            rw [Int.add_zero, Int.add_zero] at this
            exact this.trans h1.1
          · have := hrd 1 (by omega) (by omega)
            rw [show 3 + 3 * cntF (upF v.2.2 p (1 + kd * 4 + le)) (q - 1).toNat + 1 = 3 + (3 * cntF (upF v.2.2 p (1 + kd * 4 + le)) (q - 1).toNat + 1) by omega, this, show 3 + (3 * cntF v.2.2 (q - 1).toNat + 1) = 3 + 3 * cntF v.2.2 (q - 1).toNat + 1 by omega]
            exact h1.2.1
          · have := hrd 2 (by omega) (by omega)
            rw [show 3 + 3 * cntF (upF v.2.2 p (1 + kd * 4 + le)) (q - 1).toNat + 2 = 3 + (3 * cntF (upF v.2.2 p (1 + kd * 4 + le)) (q - 1).toNat + 2) by omega, this, show 3 + (3 * cntF v.2.2 (q - 1).toNat + 2) = 3 + 3 * cntF v.2.2 (q - 1).toNat + 2 by omega]
            exact h1.2.2
      · refine r_aload_n dX8_puts_90 rfl ?_
        refine q_getR fl_X8_7 dX8_puts_91 sf_290 (ro_290_0 hRO) ?_
        refine r_iload_n dX8_puts_94 rfl ?_
        refine r_iconst dX8_puts_95 ?_
        refine r_iload dX8_puts_96 rfl ?_
        refine r_iadd dX8_puts_98 ?_
        refine q_callSF lk_X8_40 dX8_puts_99 (m_placeOf _ R s (3 + k)) (by decide) rfl rfl (Nat.le_of_ble_eq_true rfl) (by decide) ?_
        refine r_aload_n dX8_puts_102 rfl ?_
        refine q_getR fl_X8_7 dX8_puts_103 sf_290 (ro_290_0 hRO) ?_
        refine r_iload_n dX8_puts_106 rfl ?_
        refine r_iconst dX8_puts_107 ?_
        refine r_iload dX8_puts_108 rfl ?_
        refine r_iadd dX8_puts_110 ?_
        refine r_iconst dX8_puts_111 ?_
        refine r_isub dX8_puts_112 ?_
        refine q_callSF lk_X8_40 dX8_puts_113 (m_placeOf _ R s (3 + k - 3)) (by decide) rfl rfl (Nat.le_of_ble_eq_true rfl) (by decide) ?_
        refine q_iald dX8_puts_116 sf_291 (by omega) ?_
        have hrd : I1 291 (3 + 27 * s + (3 + k - 3)) = I 291 (3 + 27 * s + (3 + (k - 3))) := by
          have h := g4 (k - 3)
          rw [if_neg (by omega)] at h
          rw [show 3 + k - 3 = 3 + (k - 3) by omega]
          exact h
        rw [hrd]
        refine q_iast dX8_puts_117 sf_291 (by omega) ?_
        refine r_iinc dX8_puts_118 rfl (by decide) ?_
        dsimp only [lset]
        refine r_goto (tgt := 79) dX8_puts_121 (by decide) ?_
        refine ih _ _ (by omega) (by omega) (by omega) (fun j => ?_) (fun x q h => by rw [u2_n (by omega)]; exact g5 x q h)
        rw [u2_at]
        by_cases hj : j = k
        · rw [if_pos ⟨rfl, by omega⟩, if_pos (by omega), hj]
        · rw [if_neg (by omega), g4 j]
          by_cases h3 : k < j ∧ j ≤ 3 * cntF v.2.2 80 + 2
          · rw [if_pos h3, if_pos (by omega)]
          · rw [if_neg h3, if_neg (by omega)]
  have hmid : WW cX8_puts RX8 8 (some .int) false 4 0 0 (PZ R (fun z I1 => z = r ∧ MY (fun j => I1 291 (3 + 27 * s + j)) (v.1, v.2.1, (upF v.2.2 p (1 + kd * 4 + le))) ∧ (∀ (x : Nat) (q : Int), ¬ (x = 291 ∧ 3 + 27 * s + 2 ≤ q ∧ q < 3 + 27 * s + 27) → I1 x q = I x q))) 0 0 32 [some (.inr (some 290)), some (.inl s), some (.inl p), some (.inl kd), some (.inl le), some (.inl r), none, none] [] (298, ShF, I, R) := by
    refine r_iload dX8_puts_32 rfl ?_
    refine r_aload_n dX8_puts_34 rfl ?_
    refine r_iload_n dX8_puts_35 rfl ?_
    refine r_iconst dX8_puts_36 ?_
    refine q_callVF lk_X8_44 dX8_puts_37 (m_of I R hRO s 2 (by omega)) (by decide) sf_290 rfl rfl (Nat.le_of_ble_eq_true rfl) (by decide) ?_
    rw [hY2]
    refine r_icmpge (tgt := 59) dX8_puts_40 (by decide) (by omega) (by omega) (fun h40 => ?_) (fun h40 => ?_)
    · have hf : v.2.2 p = 0 := Decidable.byContradiction fun hf => by
        have := cnt_lt (f := v.2.2) (p := p) ⟨hp.1, hp.2, hf⟩
        omega
      refine r_iconst dX8_puts_59 ?_
      refine r_istore dX8_puts_60 (by decide) ?_
      dsimp only [lset]
      refine r_iload dX8_puts_62 rfl ?_
      refine r_ifne (tgt := 138) dX8_puts_64 (by decide) (by decide) (fun h => absurd h (by decide)) (fun _ => ?_)
      refine r_iconst dX8_puts_67 ?_
      refine r_aload_n dX8_puts_68 rfl ?_
      refine r_iload_n dX8_puts_69 rfl ?_
      refine r_iconst dX8_puts_70 ?_
      refine q_callVF lk_X8_44 dX8_puts_71 (m_of I R hRO s 2 (by omega)) (by decide) sf_290 rfl rfl (Nat.le_of_ble_eq_true rfl) (by decide) ?_
      rw [hY2]
      refine r_imul dX8_puts_74 ?_
      refine r_iconst dX8_puts_75 ?_
      refine r_iadd dX8_puts_76 ?_
      refine r_istore dX8_puts_77 (by decide) ?_
      dsimp only [lset]
      exact hmove hf 25 _ _ (by omega) (by omega) (by omega) (fun j => (if_neg (by omega)).symm) (fun _ _ _ => rfl)
    · obtain ⟨q, hq1, hq2, hq3, -, -⟩ := hY.pos (k := r) (by omega)
      have hq3 : I 291 (3 + 27 * s + (3 + 3 * r)) = q := hq3
      have hqb := hq1.1
      have hqb2 := hq1.2.1
      refine r_aload_n dX8_puts_43 rfl ?_
      refine r_iload_n dX8_puts_44 rfl ?_
      refine r_iload dX8_puts_45 rfl ?_
      refine r_iconst dX8_puts_47 ?_
      refine q_callVF lk_X8_54 dX8_puts_48 (m_stopOf I R hRO s r 0 (by omega)) (by decide) sf_290 rfl rfl (Nat.le_of_ble_eq_true rfl) (by decide) ?_
      rw [Int.add_zero, hq3]
      refine r_iload_n dX8_puts_51 rfl ?_
      refine r_icmpne (tgt := 59) dX8_puts_52 (by decide) (by omega) (by omega) (fun h52 => ?_) (fun h52 => ?_)
      · have hf : v.2.2 p = 0 := Decidable.byContradiction fun hf => h52 (rank_eq (f := v.2.2) hq1 ⟨hp.1, hp.2, hf⟩ (by omega))
        refine r_iconst dX8_puts_59 ?_
        refine r_istore dX8_puts_60 (by decide) ?_
        dsimp only [lset]
        refine r_iload dX8_puts_62 rfl ?_
        refine r_ifne (tgt := 138) dX8_puts_64 (by decide) (by decide) (fun h => absurd h (by decide)) (fun _ => ?_)
        refine r_iconst dX8_puts_67 ?_
        refine r_aload_n dX8_puts_68 rfl ?_
        refine r_iload_n dX8_puts_69 rfl ?_
        refine r_iconst dX8_puts_70 ?_
        refine q_callVF lk_X8_44 dX8_puts_71 (m_of I R hRO s 2 (by omega)) (by decide) sf_290 rfl rfl (Nat.le_of_ble_eq_true rfl) (by decide) ?_
        rw [hY2]
        refine r_imul dX8_puts_74 ?_
        refine r_iconst dX8_puts_75 ?_
        refine r_iadd dX8_puts_76 ?_
        refine r_istore dX8_puts_77 (by decide) ?_
        dsimp only [lset]
        exact hmove hf 25 _ _ (by omega) (by omega) (by omega) (fun j => (if_neg (by omega)).symm) (fun _ _ _ => rfl)
      · have hf : v.2.2 p ≠ 0 := by
          have := hq1.2.2
          rw [h52] at this
          exact this
        refine r_iconst dX8_puts_55 ?_
        refine r_goto (tgt := 60) dX8_puts_56 (by decide) ?_
        refine r_istore dX8_puts_60 (by decide) ?_
        dsimp only [lset]
        refine r_iload dX8_puts_62 rfl ?_
        refine r_ifne (tgt := 138) dX8_puts_64 (by decide) (by decide) (fun _ => ?_) (fun h => absurd h (by decide))
        exact htail I _ _ hY.1 hY.2.1 (by rw [hup, if_neg (by omega)]; omega) (fun q hq hqp => by
          have h4 := hup (q - 1).toNat
          rw [if_neg (fun h => hf h.1), Int.add_zero] at h4
          rw [h4]
          exact hY.2.2.2 q hq) (fun _ _ _ => rfl) (by omega)
  have hloop : ∀ (n : Nat) (x : Int), 8 < x + n → (0 ≤ x ∧ x ≤ r) → WW cX8_puts RX8 8 (some .int) false 4 0 0 (PZ R (fun z I1 => z = r ∧ MY (fun j => I1 291 (3 + 27 * s + j)) (v.1, v.2.1, (upF v.2.2 p (1 + kd * 4 + le))) ∧ (∀ (x : Nat) (q : Int), ¬ (x = 291 ∧ 3 + 27 * s + 2 ≤ q ∧ q < 3 + 27 * s + 27) → I1 x q = I x q))) 0 0 3 [some (.inr (some 290)), some (.inl (s)), some (.inl (p)), some (.inl (kd)), some (.inl (le)), some (.inl (x)), none, none] [] (298, ShF, I, R) := by
    intro n
    induction n with
    | zero => intros; exfalso; omega
    | succ n ih =>
      intro x g1 g2
      refine r_iload dX8_puts_3 rfl ?_
      refine r_aload_n dX8_puts_5 rfl ?_
      refine r_iload_n dX8_puts_6 rfl ?_
      refine r_iconst dX8_puts_7 ?_
      refine q_callVF lk_X8_44 dX8_puts_8 (m_of I R hRO s 2 (by omega)) (by decide) sf_290 rfl rfl (Nat.le_of_ble_eq_true rfl) (by decide) ?_
      rw [hY2]
      refine r_icmpge (tgt := 32) dX8_puts_11 (by decide) (by omega) (by omega) (fun h11 => ?_) (fun h11 => ?_)
      · rw [show x = r by omega]
        exact hmid
      · obtain ⟨q, hq1, hq2, hq3, -, -⟩ := hY.pos (k := x) (by omega)
        have hq3 : I 291 (3 + 27 * s + (3 + 3 * x)) = q := hq3
        have hqb := hq1.1
        have hqb2 := hq1.2.1
        refine r_aload_n dX8_puts_14 rfl ?_
        refine r_iload_n dX8_puts_15 rfl ?_
        refine r_iload dX8_puts_16 rfl ?_
        refine r_iconst dX8_puts_18 ?_
        refine q_callVF lk_X8_54 dX8_puts_19 (m_stopOf I R hRO s x 0 (by omega)) (by decide) sf_290 rfl rfl (Nat.le_of_ble_eq_true rfl) (by decide) ?_
        rw [Int.add_zero, hq3]
        refine r_iload_n dX8_puts_22 rfl ?_
        refine r_icmpge (tgt := 32) dX8_puts_23 (by decide) (by omega) (by omega) (fun h23 => ?_) (fun h23 => ?_)
        · have h6 := cntF_mono v.2.2 (m := (p - 1).toNat) (n := (q - 1).toNat) (by omega)
          rw [show x = r by omega]
          exact hmid
        · have h5 := cntF_step v.2.2 (p := q) hqb
          rw [if_neg hq1.2.2] at h5
          have h6 := cntF_mono v.2.2 (m := q.toNat) (n := (p - 1).toNat) (by omega)
          refine r_iinc dX8_puts_26 rfl (by decide) ?_
          dsimp only [lset]
          refine r_goto (tgt := 3) dX8_puts_29 (by decide) ?_
          exact ih _ (by omega) (by omega)
  refine CC_of (own := RX8) (ini := false) (by decide +kernel) rfl (fun h => absurd h (by decide)) (Nat.le_of_ble_eq_true rfl) ?_
  show WW cX8_puts RX8 8 (some .int) false 4 0 0 (PZ R (fun z I1 => z = r ∧ MY (fun j => I1 291 (3 + 27 * s + j)) (v.1, v.2.1, (upF v.2.2 p (1 + kd * 4 + le))) ∧ (∀ (x : Nat) (q : Int), ¬ (x = 291 ∧ 3 + 27 * s + 2 ≤ q ∧ q < 3 + 27 * s + 27) → I1 x q = I x q))) 0 0 0 [some (.inr (some 290)), some (.inl (s)), some (.inl (p)), some (.inl (kd)), some (.inl (le)), none, none, none] [] (298, ShF, I, R)
  refine r_iconst dX8_puts_0 ?_
  refine r_istore dX8_puts_1 (by decide) ?_
  dsimp only [lset]
  exact hloop 9 _ (by omega) (by omega)
