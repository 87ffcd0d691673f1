/-! the lines: the other object's words and flows -/
def nxW (st : Int → Int) (to b w : Int) : Int := if w < b then st w else to
set_option maxHeartbeats 4000000 in
set_option maxRecDepth 100000 in
theorem m_newLine (I : Mem) (R : RMem) (hRO : RefOk R) {W D p s : Int} {y v : YV} (hC : MC I W D p s y v) (hWr : 20 ≤ W ∧ W ≤ 80) (hvl : 0 ≤ v.2.1 ∧ v.2.1 ≤ 80) {S : LSt} {k : Int} (hG : MG I W v S k) {kr kp : Int} (hi : Inv W S kr kp) (hkr : kr ≤ 83) : CC 3 0 0 yX8_newLine cX8_newLine 1 none [.inr (some 290)] (298, ShF, I, R) (PW R (fun I1 => MG I1 W v (sLine y.2.1 S) k ∧ MK I1 I)) := by
  have hw14 := hC.1.1
  have hs15 := hC.1.2.1
  have hs := hC.2.2.1
  have hMY := hC.2.2.2.2.1
  have hi1 := hi.1
  refine CC_of (own := RX8) (ini := false) (by decide +kernel) rfl (fun h => absurd h (by decide)) (Nat.le_of_ble_eq_true rfl) ?_
  show WW cX8_newLine RX8 1 none false 3 0 0 (PW R (fun I1 => MG I1 W v (sLine y.2.1 S) k ∧ MK I1 I)) 0 0 0 [some (.inr (some 290))] [] (298, ShF, I, R)
  refine r_aload_n dX8_newLine_0 rfl ?_
  refine r_dup dX8_newLine_1 ?_
  refine q_getI fl_X8_113 dX8_newLine_2 sf_290 ?_
  rw [hG.1]
  refine r_iconst dX8_newLine_5 ?_
  refine r_iadd dX8_newLine_6 ?_
  refine q_putI fl_X8_113 dX8_newLine_7 sf_290 ?_
  refine r_aload_n dX8_newLine_10 rfl ?_
  refine q_callVW lk_X8_116 dX8_newLine_11 (m_opensLine _ R hRO (W := W) hWr ((u2_n (Or.inr (by decide))).trans hw14) (by rw [u2_s]; omega)) (by decide) sf_290 rfl rfl (Nat.le_of_ble_eq_true rfl) (by decide) (fun I2 hI2 => ?_)
  rw [u2_s] at hI2
  obtain ⟨hc2, hk2⟩ := hI2
  refine r_aload_n dX8_newLine_14 rfl ?_
  refine r_aload_n dX8_newLine_15 rfl ?_
  refine r_aload_n dX8_newLine_16 rfl ?_
  refine q_getI fl_X8_119 dX8_newLine_17 sf_290 ?_
  rw [hk2 _ _ (by omega), u2_n (Or.inr (by decide)), hs15]
  refine r_iconst dX8_newLine_20 ?_
  refine q_callVF lk_X8_44 dX8_newLine_21 (m_of I2 R hRO s 1 (by omega)) (by decide) sf_290 rfl rfl (Nat.le_of_ble_eq_true rfl) (by decide) ?_
  have hh : I2 291 (3 + 27 * s + 1) = y.2.1 := by rw [hk2 _ _ (by omega), u2_n (Or.inl (by decide))]; exact hMY.2.1
  rw [hh]
  refine q_putI fl_X8_122 dX8_newLine_24 sf_290 ?_
  refine q_vretW dX8_newLine_27 rfl ?_
  have hk3 : ∀ (x : Nat) (q : Int), ¬ (x = 290 ∧ (q = 12 ∨ q = 13)) → ¬ ((x = 295 ∨ x = 296) ∧ 80 * (S.1 + 1) ≤ q ∧ q < 80 * (S.1 + 1) + W) → u2 I2 290 13 y.2.1 x q = I x q := fun x q h1 h2 => by rw [u2_n (by omega), hk2 _ _ (by omega), u2_n (by omega)]
  refine ⟨hG.line hi hWr.2 ?_ u2_s (fun q q1 q2 => ?_) (fun x q h1 h2 => hk3 x q (by omega) (by omega)), fun x q h1 h2 => hk3 x q h1 (by omega)⟩
  · rw [u2_n (Or.inr (by decide)), hk2 _ _ (by omega), u2_s]
  · rw [u2_n (Or.inl (by decide)), u2_n (Or.inl (by decide))]
    exact hc2 q q1 q2
set_option maxHeartbeats 4000000 in
set_option maxRecDepth 100000 in
theorem m_wordFrom (I : Mem) (R : RMem) (hRO : RefOk R) {W D p s : Int} {y v : YV} (hC : MC I W D p s y v) (hWr : 20 ≤ W ∧ W ≤ 80) (hvl : 0 ≤ v.2.1 ∧ v.2.1 ≤ 80) {st : Int → Int} (fr to b w : Int) (hg : Gp st v.2.2 to b fr w) (hwb : w ≤ b) (hfr : 0 ≤ fr) (hto : to ≤ v.2.1) (hnx : w < b → st w < to ∧ v.2.2 (st w) ≠ 32)(hok : ∀ j : Int, 0 ≤ j → j < v.2.1 → okc (v.2.2 j))  : CC 1 0 0 yX8_wordFrom cX8_wordFrom 4 (some .int) [.inr (some 290), .inl (fr), .inl (to)] (298, ShF, I, R) (PF (nxW st to b w) I R) := by
  have hN : fr ≤ nxW st to b w ∧ nxW st to b w ≤ to ∧ (∀ x : Int, fr ≤ x → x < nxW st to b w → v.2.2 x = 32) ∧ (nxW st to b w < to → v.2.2 (nxW st to b w) ≠ 32) := by
    unfold nxW
    by_cases hw : w < b
    · rw [if_pos hw]
      exact ⟨(hg.1 hw).1, by have := (hnx hw).1; omega, (hg.1 hw).2, fun _ => (hnx hw).2⟩
    · rw [if_neg hw]
      have h := hg.2 (by omega)
      exact ⟨h.1, Int.le_refl _, h.2, fun q => by omega⟩
  generalize nxW st to b w = N at hN ⊢
  have hloop : ∀ (n : Nat) (k : Int), to < k + n → (fr ≤ k ∧ k ≤ N) → WW cX8_wordFrom RX8 4 (some .int) false 1 0 0 (PF N I R) 0 0 2 [some (.inr (some 290)), some (.inl (fr)), some (.inl (to)), some (.inl (k))] [] (298, ShF, I, R) := by
    intro n
    induction n with
    | zero => intros; exfalso; omega
    | succ n ih =>
      intro k g1 g2
      refine r_iload_n dX8_wordFrom_2 rfl ?_
      refine r_iload_n dX8_wordFrom_3 rfl ?_
      refine r_icmpge (tgt := 23) dX8_wordFrom_4 (by decide) (by omega) (by omega) (fun h4 => ?_) (fun h4 => ?_)
      · refine r_iload_n dX8_wordFrom_23 rfl ?_
        refine q_iretF dX8_wordFrom_24 rfl ?_
        first
          | omega
          | (by_cases hkN : k < N
             · have := hN.2.2.1 k (by omega) hkN
               exact absurd this h14
             · omega)
      · have hck := hok k (by omega) (by omega)
        unfold okc at hck
        refine r_aload_n dX8_wordFrom_7 rfl ?_
        refine r_iload_n dX8_wordFrom_8 rfl ?_
        refine q_callVF lk_X8_128 dX8_wordFrom_9 (m_letterAt I R hRO hC hWr hvl k (by omega)) (by decide) sf_290 rfl rfl (Nat.le_of_ble_eq_true rfl) (by decide) ?_
        refine r_bipush dX8_wordFrom_12 (by decide) ?_
        refine r_icmpne (tgt := 23) dX8_wordFrom_14 (by decide) (by omega) (by omega) (fun h14 => ?_) (fun h14 => ?_)
        · refine r_iload_n dX8_wordFrom_23 rfl ?_
          refine q_iretF dX8_wordFrom_24 rfl ?_
          first
            | omega
            | (by_cases hkN : k < N
               · have := hN.2.2.1 k (by omega) hkN
                 exact absurd this h14
               · omega)
        · refine r_iinc dX8_wordFrom_17 rfl (by decide) ?_
          dsimp only [lset]
          refine r_goto (tgt := 2) dX8_wordFrom_20 (by decide) ?_
          by_cases hkN : k = N
          · exfalso
            have := hN.2.2.2 (by omega)
            rw [hkN] at h14
            exact this h14
          · exact ih (k + 1) (by omega) (by omega)
  refine CC_of (own := RX8) (ini := false) (by decide +kernel) rfl (fun h => absurd h (by decide)) (Nat.le_of_ble_eq_true rfl) ?_
  show WW cX8_wordFrom RX8 4 (some .int) false 1 0 0 (PF N I R) 0 0 0 [some (.inr (some 290)), some (.inl (fr)), some (.inl (to)), none] [] (298, ShF, I, R)
  refine r_iload_n dX8_wordFrom_0 rfl ?_
  refine r_istore_n dX8_wordFrom_1 (by decide) ?_
  dsimp only [lset]
  exact hloop 82 fr (by omega) (by omega)
set_option maxHeartbeats 4000000 in
set_option maxRecDepth 100000 in
theorem m_endOfWord (I : Mem) (R : RMem) (hRO : RefOk R) {W D p s : Int} {y v : YV} (hC : MC I W D p s y v) (hWr : 20 ≤ W ∧ W ≤ 80) (hvl : 0 ≤ v.2.1 ∧ v.2.1 ≤ 80) {st ln : Int → Int} (fr to b w : Int) (hf : fr = st w) (hw : Wk st ln v.2.2 to b w) (hwb : w < b) (hto : to ≤ v.2.1)(hok : ∀ j : Int, 0 ≤ j → j < v.2.1 → okc (v.2.2 j))  : CC 1 0 0 yX8_endOfWord cX8_endOfWord 4 (some .int) [.inr (some 290), .inl (fr), .inl (to)] (298, ShF, I, R) (PF (st w + ln w) I R) := by
  have hN : fr ≤ st w + ln w ∧ 0 ≤ fr ∧ st w + ln w ≤ to ∧ (∀ x : Int, fr ≤ x → x < st w + ln w → v.2.2 x ≠ 32) ∧ (st w + ln w < to → v.2.2 (st w + ln w) = 32) := by
    have h1 := hw.1
    refine ⟨by omega, by omega, h1.2.2, fun x x1 x2 => hw.2.1 x (by omega) x2, fun q => ?_⟩
    by_cases hb : w + 1 < b
    · exact (hw.2.2.2.1 hb).2 _ (Int.le_refl _) (hw.2.2.1 hb)
    · exact (hw.2.2.2.2 (by omega)).2 _ (Int.le_refl _) q
  generalize st w + ln w = N at hN ⊢
  have hloop : ∀ (n : Nat) (k : Int), to < k + n → (fr ≤ k ∧ k ≤ N) → WW cX8_endOfWord RX8 4 (some .int) false 1 0 0 (PF N I R) 0 0 2 [some (.inr (some 290)), some (.inl (fr)), some (.inl (to)), some (.inl (k))] [] (298, ShF, I, R) := by
    intro n
    induction n with
    | zero => intros; exfalso; omega
    | succ n ih =>
      intro k g1 g2
      refine r_iload_n dX8_endOfWord_2 rfl ?_
      refine r_iload_n dX8_endOfWord_3 rfl ?_
      refine r_icmpge (tgt := 23) dX8_endOfWord_4 (by decide) (by omega) (by omega) (fun h4 => ?_) (fun h4 => ?_)
      · refine r_iload_n dX8_endOfWord_23 rfl ?_
        refine q_iretF dX8_endOfWord_24 rfl ?_
        first
          | omega
          | (by_cases hkN : k < N
             · have := hN.2.2.2.1 k (by omega) hkN
               exact absurd h14 this
             · omega)
      · have hck := hok k (by omega) (by omega)
        unfold okc at hck
        refine r_aload_n dX8_endOfWord_7 rfl ?_
        refine r_iload_n dX8_endOfWord_8 rfl ?_
        refine q_callVF lk_X8_128 dX8_endOfWord_9 (m_letterAt I R hRO hC hWr hvl k (by omega)) (by decide) sf_290 rfl rfl (Nat.le_of_ble_eq_true rfl) (by decide) ?_
        refine r_bipush dX8_endOfWord_12 (by decide) ?_
        refine r_icmpeq (tgt := 23) dX8_endOfWord_14 (by decide) (by omega) (by omega) (fun h14 => ?_) (fun h14 => ?_)
        · refine r_iload_n dX8_endOfWord_23 rfl ?_
          refine q_iretF dX8_endOfWord_24 rfl ?_
          first
            | omega
            | (by_cases hkN : k < N
               · have := hN.2.2.2.1 k (by omega) hkN
                 exact absurd h14 this
               · omega)
        · refine r_iinc dX8_endOfWord_17 rfl (by decide) ?_
          dsimp only [lset]
          refine r_goto (tgt := 2) dX8_endOfWord_20 (by decide) ?_
          by_cases hkN : k = N
          · exfalso
            have := hN.2.2.2.2 (by omega)
            rw [hkN] at h14
            exact h14 this
          · exact ih (k + 1) (by omega) (by omega)
  refine CC_of (own := RX8) (ini := false) (by decide +kernel) rfl (fun h => absurd h (by decide)) (Nat.le_of_ble_eq_true rfl) ?_
  show WW cX8_endOfWord RX8 4 (some .int) false 1 0 0 (PF N I R) 0 0 0 [some (.inr (some 290)), some (.inl (fr)), some (.inl (to)), none] [] (298, ShF, I, R)
  refine r_iload_n dX8_endOfWord_0 rfl ?_
  refine r_istore_n dX8_endOfWord_1 (by decide) ?_
  dsimp only [lset]
  exact hloop 82 fr (by omega) (by omega)
theorem sFill_2 (cur : Int) (S T : LSt) (h1 : T.1 = S.1) (h2 : T.2.1 = S.2.1) (h3 : T.2.2.1 = S.2.2.1) (h4 : T.2.2.2.1 = S.2.2.2.1) (h5 : T.2.2.2.2 = S.2.2.2.2 ∨ ∃ z : Int, T.2.2.2.2 = fiF S.2.2.2.2 cur z ∧ S.2.2.2.2 cur 0 = S.1) : sFill cur T = sFill cur S := by
  rcases h5 with h5 | ⟨z, h5, h6⟩
  · have e : T = S := Prod.ext h1 (Prod.ext h2 (Prod.ext h3 (Prod.ext h4 h5)))
    rw [e]
  · have e0 : T.2.2.2.2 cur 0 = S.2.2.2.2 cur 0 := by
      rw [h5]
      exact if_neg (fun q => absurd q.2 (by decide))
    have e1 : T.2.2.2.2 cur 1 = S.2.2.2.2 cur 1 := by
      rw [h5]
      exact if_neg (fun q => absurd q.2 (by decide))
    unfold sFill
    rw [if_pos (by rw [e0, h1]; exact h6), if_pos h6]
    refine Prod.ext h1 (Prod.ext h2 (Prod.ext h3 (Prod.ext h4 ?_)))
    show fiF T.2.2.2.2 cur (T.2.1 - T.2.2.2.2 cur 1) = fiF S.2.2.2.2 cur (S.2.1 - S.2.2.2.2 cur 1)
    rw [h2, e1, h5]
    funext f w
    unfold fiF
    split <;> rfl
/-- j characters of a piece stand -/
def sJ (cur : Int) (S : LSt) (j src : Int) : LSt := if j = 0 then S else sFill cur (sSeg S j 0 src)
/-- the piece, with the field as it was before the last character -/
theorem sJ_step {cur : Int} {S : LSt} {j src : Int} (hj : 0 ≤ j) : ∃ F : Int → Int → Int, sFill cur ((sSeg S (j + 1) 0 src).1, (sSeg S (j + 1) 0 src).2.1, (sSeg S (j + 1) 0 src).2.2.1, (sSeg S (j + 1) 0 src).2.2.2.1, F) = sJ cur S (j + 1) src ∧ F = (sJ cur S j src).2.2.2.2 ∧ F cur 0 = S.2.2.2.2 cur 0 := by
  refine ⟨(sJ cur S j src).2.2.2.2, ?_, rfl, ?_⟩
  · unfold sJ
    rw [if_neg (show ¬ j + 1 = 0 by omega)]
    refine sFill_2 cur _ _ rfl rfl rfl rfl ?_
    by_cases h0 : j = 0
    · rw [if_pos h0]
      exact Or.inl rfl
    · rw [if_neg h0]
      unfold sFill
      by_cases hb : (sSeg S j 0 src).2.2.2.2 cur 0 = (sSeg S j 0 src).1
      · rw [if_pos hb]
        exact Or.inr ⟨_, rfl, hb⟩
      · rw [if_neg hb]
        exact Or.inl rfl
  · unfold sJ
    split
    · rfl
    · exact sFill_F0 cur _
theorem MG.withF {I : Mem} {W : Int} {v : YV} {S T : LSt} {k : Int} (h : MG I W v S k) (F : Int → Int → Int) (hF : ∀ q w : Int, 0 ≤ q → q < k → 0 ≤ w → w < 6 → I 297 (6 * q + w) = F q w) : MG I W v (S.1, S.2.1, S.2.2.1, S.2.2.2.1, F) k := ⟨h.1, h.2.1, hF, h.2.2.2⟩
theorem MG.j {I : Mem} {W : Int} {v : YV} {S : LSt} {k kr kp cur j src : Int} (h : MG I W v (sJ cur S j src) k) (hi : Inv W S kr kp) (hj : 0 ≤ j) : MG I W v ((sSeg S j 0 src).1, (sSeg S j 0 src).2.1, (sSeg S j 0 src).2.2.1, (sSeg S j 0 src).2.2.2.1, (sJ cur S j src).2.2.2.2) k := by
  by_cases h0 : j = 0
  · have e : sJ cur S j src = S := if_pos h0
    rw [e] at h ⊢
    rw [h0]
    exact (h.seg0 hi 0 src).withF (T := S) _ h.2.2.1
  · have e : sJ cur S j src = sFill cur (sSeg S j 0 src) := if_neg h0
    rw [e] at h ⊢
    have e2 := sFill_same cur (sSeg S j 0 src)
    refine ⟨h.1.trans e2.1, h.2.1.trans e2.2.1, h.2.2.1, fun r q r1 r2 q1 q2 => ?_⟩
    have h4 := h.2.2.2 r q r1 (by rw [e2.1]; exact r2) q1 q2
    have h5 := fill_cell v cur (sSeg S j 0 src) r q
    rw [h5.1, h5.2] at h4
    exact h4
set_option maxHeartbeats 4000000 in
set_option maxRecDepth 100000 in
theorem m_flows (I : Mem) (R : RMem) (hRO : RefOk R) {W D p s : Int} {y v : YV} (hC : MC I W D p s y v) (hWr : 20 ≤ W ∧ W ≤ 80) (hvl : 0 ≤ v.2.1 ∧ v.2.1 ≤ 80) (hok : ∀ j : Int, 0 ≤ j → j < v.2.1 → okc (v.2.2 j)) (hH : 0 ≤ y.2.1 ∧ y.2.1 < W) (cur : Int) (hcur : I 290 17 = cur) (hc81 : 0 ≤ cur ∧ cur < 81) {S : LSt} {k : Int} (hk : cur < k) (hG : MG I W v S k) {st ln : Int → Int} (fr to a b : Int) (hF : Fk st ln v.2.2 fr to a b) (hto : to ≤ v.2.1) {k0 : Int} (hI : Inv W S k0 k0) (hk0 : k0 ≤ to) (hst : a < b → k0 ≤ st a ∧ S.2.1 < W) (hF0 : 0 ≤ S.2.2.2.2 cur 0 ∧ S.2.2.2.2 cur 0 ≤ 80) : CC 4 0 0 yX8_flows cX8_flows 6 none [.inr (some 290), .inl (fr), .inl (to)] (298, ShF, I, R) (PW R (fun I1 => MG I1 W v (sFl W y.2.1 cur st ln a (b - a).toNat a S) k ∧ MK I1 I)) := by
  have hab := hF.1
  have hbd := hF.bd
  have hfr0 := hF.2.1
  have hWk := hF.2.2.2
  have hne : ∀ w : Int, a ≤ w → w < b → st w < to ∧ v.2.2 (st w) ≠ 32 := fun w w1 w2 => by
    have h := hWk w w1 w2
    have h1 := h.1
    exact ⟨by omega, h.2.1 _ (Int.le_refl _) (by omega)⟩
  have hloop : ∀ (n : Nat) (w : Int) (S1 : LSt) (k1 iF : Int) (u5 : Option MV) (I1 : Mem), b < w + n → (a ≤ w ∧ w ≤ b) → MG I1 W v S1 k → MK I1 I → Inv W S1 k1 k1 → k1 ≤ to → (w < b → k1 ≤ st w ∧ (a < w → k1 < st w) ∧ (w = a → S1.2.1 < W)) → (sFl W y.2.1 cur st ln a (b - a).toNat a S) = sFl W y.2.1 cur st ln a (b - w).toNat w S1 → S1.2.2.2.2 cur 0 = S.2.2.2.2 cur 0 → ((iF = 1 ∧ w = a) ∨ (iF = 0 ∧ a < w)) → WW cX8_flows RX8 6 none false 4 0 0 (PW R (fun I1 => MG I1 W v (sFl W y.2.1 cur st ln a (b - a).toNat a S) k ∧ MK I1 I)) 0 0 10 [some (.inr (some 290)), some (.inl fr), some (.inl to), some (.inl iF), some (.inl (nxW st to b w)), u5] [] (298, ShF, I1, R) := by
    intro n
    induction n with
    | zero => intros; exfalso; omega
    | succ n ih =>
      intro w S1 k1 iF u5 I1 g1 g2 g3 g4 g5 g6 g7 g8 g9 g10
      have hTG := fun (hwb : w < b) => show sFl W y.2.1 cur st ln a (b - w).toNat w S1 = sFl W y.2.1 cur st ln a (b - (w + 1)).toNat (w + 1) (sPl W y.2.1 cur (st w + ln w) (ln w).toNat (if a < w then sGap W y.2.1 (ln w) S1 else S1) (ln w)) by
        rw [show (b - w).toNat = (b - (w + 1)).toNat + 1 by omega]
        rfl
      have hbody : w < b → ∀ (S2 : LSt) (iF : Int) (I2 : Mem), MG I2 W v S2 k → MK I2 I → Inv W S2 (st w) (st w) → S2.2.1 < W → (if a < w then sGap W y.2.1 (ln w) S1 else S1) = S2 → S2.2.2.2.2 cur 0 = S.2.2.2.2 cur 0 → WW cX8_flows RX8 6 none false 4 0 0 (PW R (fun I1 => MG I1 W v (sFl W y.2.1 cur st ln a (b - a).toNat a S) k ∧ MK I1 I)) 0 0 69 [some (.inr (some 290)), some (.inl fr), some (.inl to), some (.inl iF), some (.inl (st w)), some (.inl (st w + ln w))] [] (298, ShF, I2, R) := by
        intro hwb S2 iF I2 b1 b2 b3 b4 b5 b6
        have hw := hWk w (by omega) hwb
        have hw1 := hw.1
        have hTG := hTG hwb
        rw [b5] at hTG
        have hchars : ∀ (Sy : LSt) (kry kpy ry : Int) (jy : Int) (Iy : Mem), (1 ≤ ry ∧ 0 ≤ jy ∧ jy < pcL W Sy.2.1 ry) → MG Iy W v (sJ cur Sy jy (st w + ln w - ry)) k → MK Iy I → Inv W Sy kry kpy → Sy.2.1 < W → (kry + ry ≤ st w + ln w ∧ kpy + ry ≤ st w + ln w ∧ ry ≤ ln w) → Sy.2.2.2.2 cur 0 = S.2.2.2.2 cur 0 → (∀ Iz : Mem, MG Iz W v (sJ cur Sy (jy + 1) (st w + ln w - ry)) k → MK Iz I → WW cX8_flows RX8 6 none false 4 0 0 (PW R (fun I1 => MG I1 W v (sFl W y.2.1 cur st ln a (b - a).toNat a S) k ∧ MK I1 I)) 0 0 69 [some (.inr (some 290)), some (.inl fr), some (.inl to), some (.inl iF), some (.inl (st w + ln w - ry + (jy + 1))), some (.inl (st w + ln w))] [] (298, ShF, Iz, R)) → WW cX8_flows RX8 6 none false 4 0 0 (PW R (fun I1 => MG I1 W v (sFl W y.2.1 cur st ln a (b - a).toNat a S) k ∧ MK I1 I)) 0 0 91 [some (.inr (some 290)), some (.inl fr), some (.inl to), some (.inl iF), some (.inl (st w + ln w - ry + jy)), some (.inl (st w + ln w))] [] (298, ShF, Iy, R) := by
          intro Sy kry kpy ry jy Iy d2 d3 d4 d5 d6 d7 d8 dk
          refine r_aload_n dX8_flows_91 rfl ?_
          refine r_aload_n dX8_flows_92 rfl ?_
          refine r_iload dX8_flows_93 rfl ?_
          have hply := pcL_in (W := W) (c := Sy.2.1) (r := ry) ⟨d5.2.1.1, d6⟩ d2.1
          have hy1 := d5.1
          have hy2 := d5.2.1
          have hck := hok ((st w + ln w - ry) + jy) (by omega) (by omega)
          unfold okc at hck
          have hGj := d3.j d5 d2.2.1
          have hl12 : Iy 290 12 = Sy.1 := hGj.1
          have hl13 : Iy 290 13 = Sy.2.1 + jy := hGj.2.1
          refine q_callVF lk_X8_128 dX8_flows_95 (m_letterAt Iy R hRO (hC.kept d4) hWr hvl ((st w + ln w - ry) + jy) (by omega)) (by decide) sf_290 rfl rfl (Nat.le_of_ble_eq_true rfl) (by decide) ?_
          refine r_iconst dX8_flows_98 ?_
          refine q_callVW lk_X8_140 dX8_flows_99 (m_writes Iy R hRO (v.2.2 ((st w + ln w - ry) + jy)) 1 (by omega) (by omega) (by omega)) (by decide) sf_290 rfl rfl (Nat.le_of_ble_eq_true rfl) (by decide) (fun I8 hI8 => ?_)
          subst hI8
          obtain ⟨F, hFe, hFj, hF0'⟩ := sJ_step (cur := cur) (S := Sy) (j := jy) (src := (st w + ln w - ry)) d2.2.1
          have hGs : MG (wrI Iy (v.2.2 ((st w + ln w - ry) + jy)) 1) W v (sSeg (Sy.1, Sy.2.1, Sy.2.2.1, Sy.2.2.2.1, F) (jy + 1) 0 (st w + ln w - ry)) k := by
            refine MG.seg (S := (Sy.1, Sy.2.1, Sy.2.2.1, Sy.2.2.2.1, F)) (kr := kry) (kp := kpy) ?_ d5 hWr.2 ⟨d2.2.1, ?_⟩ ?_ rfl
            · rw [hFj]; exact hGj
            · show Sy.2.1 + jy < W
              omega
            · rw [if_pos rfl, if_pos ⟨by omega, by omega⟩]
          have hk8 : MK (wrI Iy (v.2.2 ((st w + ln w - ry) + jy)) 1) I := (wrI_k _ _ _).trans d4
          generalize wrI Iy (v.2.2 ((st w + ln w - ry) + jy)) 1 = I8 at hGs hk8 ⊢
          refine r_aload_n dX8_flows_102 rfl ?_
          refine q_callVW lk_X8_143 dX8_flows_103 (m_fills I8 R hRO cur ((hk8 _ _ (by omega) (by omega)).trans hcur) hc81 (by have := hGs.2.2.1 cur 0 hc81.1 hk (by decide) (by decide); rw [Int.add_zero] at this; rw [this]; show 0 ≤ F cur 0 ∧ F cur 0 ≤ 100; rw [hF0', d8]; omega) (by rw [hGs.1]; show 0 ≤ Sy.1 ∧ Sy.1 ≤ 100; omega)) (by decide) sf_290 rfl rfl (Nat.le_of_ble_eq_true rfl) (by decide) (fun I9 hI9 => ?_)
          subst hI9
          have hGf := hGs.fill (cur := cur) ⟨hc81.1, hk⟩
          have hGf2 : MG (mfI I8 cur) W v (sJ cur Sy (jy + 1) (st w + ln w - ry)) k := by
            rw [← hFe]
            exact hGf
          have hk9 : MK (mfI I8 cur) I := (mfI_k _ _).trans hk8
          refine r_iinc dX8_flows_106 rfl (by decide) ?_
          dsimp only [lset]
          refine r_goto (tgt := 69) dX8_flows_109 (by decide) ?_
          rw [show (st w + ln w - ry) + jy + 1 = (st w + ln w - ry) + (jy + 1) by omega]
          exact dk _ hGf2 hk9
        have hrest : ∀ (N m : Nat) (Sx : LSt) (kr kp r j : Int) (Ix : Mem), r - j < N → r ≤ m → (1 ≤ r ∧ 0 ≤ j ∧ j ≤ pcL W Sx.2.1 r) → MG Ix W v (sJ cur Sx j (st w + ln w - r)) k → MK Ix I → Inv W Sx kr kp → Sx.2.1 < W → (kr + r ≤ st w + ln w ∧ kp + r ≤ st w + ln w ∧ r ≤ ln w) → Sx.2.2.2.2 cur 0 = S.2.2.2.2 cur 0 → sPl W y.2.1 cur (st w + ln w) (ln w).toNat S2 (ln w) = sPl W y.2.1 cur (st w + ln w) m Sx r → WW cX8_flows RX8 6 none false 4 0 0 (PW R (fun I1 => MG I1 W v (sFl W y.2.1 cur st ln a (b - a).toNat a S) k ∧ MK I1 I)) 0 0 69 [some (.inr (some 290)), some (.inl fr), some (.inl to), some (.inl iF), some (.inl (st w + ln w - r + j)), some (.inl (st w + ln w))] [] (298, ShF, Ix, R) := by
          intro N
          induction N with
          | zero =>
            intro m Sx kr kp r j Ix c0 c1 c2 c3 c4 c5 c6 c7 c8 c9
            have hpl := pcL_in (W := W) (c := Sx.2.1) (r := r) ⟨c5.2.1.1, c6⟩ c2.1
            exfalso
            omega
          | succ N ihN =>
            intro m Sx kr kp r j Ix c0 c1 c2 c3 c4 c5 c6 c7 c8 c9
            have hpl := pcL_in (W := W) (c := Sx.2.1) (r := r) ⟨c5.2.1.1, c6⟩ c2.1
            have hx1 := c5.1
            have hx2 := c5.2.1
            obtain ⟨m, rfl⟩ : ∃ q : Nat, m = q + 1 := ⟨m - 1, by omega⟩
            have c9 := c9
            rw [sPl_s _ _ _ (show 0 < r by omega)] at c9
            have hGl : Ix 290 13 = (sJ cur Sx j (st w + ln w - r)).2.1 := c3.2.1
            have hjc : (sJ cur Sx j (st w + ln w - r)).2.1 = Sx.2.1 + j ∧ (sJ cur Sx j (st w + ln w - r)).1 = Sx.1 := by
              unfold sJ
              by_cases h0 : j = 0
              · rw [if_pos h0, h0, Int.add_zero]
                exact ⟨rfl, rfl⟩
              · rw [if_neg h0]
                have := sFill_same cur (sSeg Sx j 0 (st w + ln w - r))
                exact ⟨this.2.1, this.1⟩
            have hCx := hC.kept c4
            refine r_iload dX8_flows_69 rfl ?_
            refine r_iload dX8_flows_71 rfl ?_
            refine r_icmpge (tgt := 112) dX8_flows_73 (by decide) (by omega) (by omega) (fun h73 => ?_) (fun h73 => ?_)
            · have hjr : j = r := by omega
              have hLr : pcL W Sx.2.1 r = r := by omega
              rw [if_neg (show ¬ 0 < r - pcL W Sx.2.1 r by omega)] at c9
              have hsp : sJ cur Sx j (st w + ln w - r) = sPc W cur (st w + ln w) Sx r := by
                rw [show j = pcL W Sx.2.1 r by omega]
                exact if_neg (by omega)
              rw [hsp, ← c9] at c3
              rw [show st w + ln w - r + j = st w + ln w by omega]
              refine r_iconst dX8_flows_112 ?_
              refine r_istore_n dX8_flows_113 (by decide) ?_
              dsimp only [lset]
              refine r_aload_n dX8_flows_114 rfl ?_
              refine r_iload dX8_flows_115 rfl ?_
              refine r_iload_n dX8_flows_117 rfl ?_
              refine q_callVF lk_X8_131 dX8_flows_118 (m_wordFrom Ix R hRO hCx hWr hvl (st w + ln w) to b (w + 1) hw.2.2.2 (by omega) (by omega) hto (fun q => hne (w + 1) (by omega) q) hok) (by decide) sf_290 rfl rfl (Nat.le_of_ble_eq_true rfl) (by decide) ?_
              refine r_istore dX8_flows_121 (by decide) ?_
              dsimp only [lset]
              refine r_goto (tgt := 10) dX8_flows_123 (by decide) ?_
              refine ih (w + 1) _ (st w + ln w) 0 _ Ix (by omega) (by omega) c3 c4 ?_ (by omega) (fun q => ⟨by have := hw.2.2.1 q; omega, fun _ => hw.2.2.1 q, fun q => by omega⟩) ?_ ?_ (Or.inr ⟨rfl, by omega⟩)
              · exact (Inv.pl (cur := cur) (e := st w + ln w) hH _ _ _ _ _ b3 b4 hw1.1 (by omega)).le (by omega) (by omega)
              · rw [g8, hTG]
              · rw [sPl_F0, b6]
            · refine r_aload_n dX8_flows_76 rfl ?_
              refine q_getI fl_X8_122 dX8_flows_77 sf_290 ?_
              rw [hGl, hjc.1]
              refine r_aload_n dX8_flows_80 rfl ?_
              refine q_getI fl_X8_110 dX8_flows_81 sf_290 ?_
              rw [hCx.1.1]
              refine r_icmpne (tgt := 91) dX8_flows_84 (by decide) (by omega) (by omega) (fun h84 => ?_) (fun h84 => ?_)
              · have hjL : j < pcL W Sx.2.1 r := by omega
                first
                  | exact hchars Sx kr kp r j Ix ⟨c2.1, c2.2.1, hjL⟩ c3 c4 c5 c6 c7 c8 (fun Iz z1 z2 => ihN (m + 1) Sx kr kp r (j + 1) Iz (by omega) c1 ⟨c2.1, by omega, by omega⟩ z1 z2 c5 c6 c7 c8 (c9.trans (sPl_s _ _ _ (by omega)).symm))
                  | (have hpy := pcL_in (W := W) (c := y.2.1) (r := r - pcL W Sx.2.1 r) hH (by omega)
                     have hiy : Inv W (sLine y.2.1 (sPc W cur (st w + ln w) Sx r)) (kr + 1) (kp + 1) := hip.line ⟨hH.1, by omega⟩
                     have hFy : (sLine y.2.1 (sPc W cur (st w + ln w) Sx r)).2.2.2.2 cur 0 = S.2.2.2.2 cur 0 := (sFill_F0 cur _).trans c8
                     have hz : sJ cur (sLine y.2.1 (sPc W cur (st w + ln w) Sx r)) 0 (st w + ln w - (r - pcL W Sx.2.1 r)) = sLine y.2.1 (sPc W cur (st w + ln w) Sx r) := if_pos rfl
                     have h := hchars (sLine y.2.1 (sPc W cur (st w + ln w) Sx r)) (kr + 1) (kp + 1) (r - pcL W Sx.2.1 r) 0 I3 ⟨by omega, Int.le_refl _, by show 0 < pcL W y.2.1 (r - pcL W Sx.2.1 r); omega⟩ (by rw [hz]; exact hI3.1) (hI3.2.trans c4) hiy (by show y.2.1 < W; omega) (by omega) hFy (fun Iz z1 z2 => ihN m (sLine y.2.1 (sPc W cur (st w + ln w) Sx r)) (kr + 1) (kp + 1) (r - pcL W Sx.2.1 r) (0 + 1) Iz (by omega) (by omega) ⟨by omega, by omega, by show 0 + 1 ≤ pcL W y.2.1 (r - pcL W Sx.2.1 r); omega⟩ z1 z2 hiy (by show y.2.1 < W; omega) (by omega) hFy c9)
                     rw [show st w + ln w - (r - pcL W Sx.2.1 r) + 0 = st w + ln w - r + j by omega] at h
                     exact h)
              · have hjL : j = pcL W Sx.2.1 r := by omega
                have hLr : pcL W Sx.2.1 r < r := by omega
                rw [if_pos (show 0 < r - pcL W Sx.2.1 r by omega)] at c9
                have hsp : sJ cur Sx j (st w + ln w - r) = sPc W cur (st w + ln w) Sx r := by
                  rw [hjL]
                  exact if_neg (by omega)
                rw [hsp] at c3
                have hip : Inv W (sPc W cur (st w + ln w) Sx r) kr (kp + 1) := (c5.seg (l := pcL W Sx.2.1 r) (d := 0) (s := (st w + ln w - r)) ⟨by omega, hpl.2.2.1⟩).fill cur
                refine r_aload_n dX8_flows_87 rfl ?_
                refine q_callVW lk_X8_137 dX8_flows_88 (m_newLine Ix R hRO hCx hWr hvl c3 hip (by omega)) (by decide) sf_290 rfl rfl (Nat.le_of_ble_eq_true rfl) (by decide) (fun I3 hI3 => ?_)
                first
                  | exact hchars Sx kr kp r j Ix ⟨c2.1, c2.2.1, hjL⟩ c3 c4 c5 c6 c7 c8 (fun Iz z1 z2 => ihN (m + 1) Sx kr kp r (j + 1) Iz (by omega) c1 ⟨c2.1, by omega, by omega⟩ z1 z2 c5 c6 c7 c8 (c9.trans (sPl_s _ _ _ (by omega)).symm))
                  | (have hpy := pcL_in (W := W) (c := y.2.1) (r := r - pcL W Sx.2.1 r) hH (by omega)
                     have hiy : Inv W (sLine y.2.1 (sPc W cur (st w + ln w) Sx r)) (kr + 1) (kp + 1) := hip.line ⟨hH.1, by omega⟩
                     have hFy : (sLine y.2.1 (sPc W cur (st w + ln w) Sx r)).2.2.2.2 cur 0 = S.2.2.2.2 cur 0 := (sFill_F0 cur _).trans c8
                     have hz : sJ cur (sLine y.2.1 (sPc W cur (st w + ln w) Sx r)) 0 (st w + ln w - (r - pcL W Sx.2.1 r)) = sLine y.2.1 (sPc W cur (st w + ln w) Sx r) := if_pos rfl
                     have h := hchars (sLine y.2.1 (sPc W cur (st w + ln w) Sx r)) (kr + 1) (kp + 1) (r - pcL W Sx.2.1 r) 0 I3 ⟨by omega, Int.le_refl _, by show 0 < pcL W y.2.1 (r - pcL W Sx.2.1 r); omega⟩ (by rw [hz]; exact hI3.1) (hI3.2.trans c4) hiy (by show y.2.1 < W; omega) (by omega) hFy (fun Iz z1 z2 => ihN m (sLine y.2.1 (sPc W cur (st w + ln w) Sx r)) (kr + 1) (kp + 1) (r - pcL W Sx.2.1 r) (0 + 1) Iz (by omega) (by omega) ⟨by omega, by omega, by show 0 + 1 ≤ pcL W y.2.1 (r - pcL W Sx.2.1 r); omega⟩ z1 z2 hiy (by show y.2.1 < W; omega) (by omega) hFy c9)
                     rw [show st w + ln w - (r - pcL W Sx.2.1 r) + 0 = st w + ln w - r + j by omega] at h
                     exact h)
        have h := hrest ((ln w).toNat + 1) (ln w).toNat S2 (st w) (st w) (ln w) 0 I2 (by omega) (by omega) ⟨hw1.1, Int.le_refl _, by have := pcL_in (W := W) (c := S2.2.1) (r := ln w) ⟨b3.2.1.1, b4⟩ hw1.1; omega⟩ (by rw [show sJ cur S2 0 (st w + ln w - ln w) = S2 from if_pos rfl]; exact b1) b2 b3 b4 (by omega) b6 rfl
        rw [show st w + ln w - ln w + 0 = st w by omega] at h
        exact h
      have hnb : 0 ≤ (nxW st to b w) ∧ (nxW st to b w) ≤ 80 ∧ to ≤ 80 ∧ 0 ≤ to := by
        unfold nxW
        by_cases h : w < b
        · rw [if_pos h]
          have := (hWk w (by omega) h).1
          omega
        · rw [if_neg h]
          omega
      refine r_iload dX8_flows_10 rfl ?_
      refine r_iload_n dX8_flows_12 rfl ?_
      refine r_icmpge (tgt := 126) dX8_flows_13 (by decide) (by have := hnb; omega) (by have := hnb; omega) (fun h13 => ?_) (fun h13 => ?_)
      · refine q_vretW dX8_flows_126 rfl ?_
        have hwb : w = b := by
          unfold nxW at h13
          by_cases h : w < b
          · rw [if_pos h] at h13
            have := hne w (by omega) h
            omega
          · omega
        have hz : (b - w).toNat = 0 := by omega
        rw [hz] at g8
        have e : sFl W y.2.1 cur st ln a 0 w S1 = S1 := rfl
        rw [e] at g8
        rw [g8]
        exact ⟨g3, g4⟩
      · have hwb : w < b := by
          unfold nxW at h13
          by_cases h : w < b
          · exact h
          · rw [if_neg h] at h13
            omega
        have hnx : (nxW st to b w) = st w := if_pos hwb
        rw [hnx]
        have hw := hWk w (by omega) hwb
        have hw1 := hw.1
        have hkw := g7 hwb
        have hC1 := hC.kept g4
        have hkr := g5.1
        have hc0 := g5.2.1
        refine r_aload_n dX8_flows_16 rfl ?_
        refine r_iload dX8_flows_17 rfl ?_
        refine r_iload_n dX8_flows_19 rfl ?_
        refine q_callVF lk_X8_134 dX8_flows_20 (m_endOfWord I1 R hRO hC1 hWr hvl (ln := ln) (st w) to b w rfl hw hwb hto hok) (by decide) sf_290 rfl rfl (Nat.le_of_ble_eq_true rfl) (by decide) ?_
        refine r_istore dX8_flows_23 (by decide) ?_
        dsimp only [lset]
        refine r_iload_n dX8_flows_25 rfl ?_
        refine r_ifne (tgt := 61) dX8_flows_26 (by decide) (by omega) (fun h26 => ?_) (fun h26 => ?_)
        · refine r_iload_n dX8_flows_61 rfl ?_
          refine r_ifne (tgt := 69) dX8_flows_62 (by decide) (by omega) (fun h62 => ?_) (fun h62 => ?_)
          · first
              | (have hwa : w = a := by omega
                 exact hbody hwb S1 iF I1 g3 g4 (g5.le hkw.1 hkw.1) (hkw.2.2 hwa) (if_neg (by omega)) g9)
              | (have hgap : sGap W y.2.1 (ln w) S1 = sAt S1 (S1.2.1 + 1) := if_pos (by omega)
                 have hgp := g5.gap (l := ln w) hH hw1.1
                 rw [hgap] at hgp
                 have hkw2 := hkw.2.1 (by omega)
                 exact hbody hwb (sAt S1 (S1.2.1 + 1)) iF _ g3.at (fun x j p q => by rw [u2_n (by omega)]; exact g4 x j p q) (hgp.1.le (by omega) (by omega)) hgp.2 ((if_pos (by omega)).trans hgap) g9)
              | (have hgap : sGap W y.2.1 (ln w) S1 = sLine y.2.1 S1 := if_neg (by omega)
                 have hgp := g5.gap (l := ln w) hH hw1.1
                 rw [hgap] at hgp
                 have hkw2 := hkw.2.1 (by omega)
                 exact hbody hwb (sLine y.2.1 S1) iF _ hI3.1 (hI3.2.trans g4) (hgp.1.le (by omega) (by omega)) hgp.2 ((if_pos (by omega)).trans hgap) g9)
              | (exfalso; omega)
          · refine r_aload_n dX8_flows_65 rfl ?_
            refine q_callVW lk_X8_137 dX8_flows_66 (m_newLine I1 R hRO hC1 hWr hvl g3 g5 (by omega)) (by decide) sf_290 rfl rfl (Nat.le_of_ble_eq_true rfl) (by decide) (fun I3 hI3 => ?_)
            first
              | (have hwa : w = a := by omega
                 exact hbody hwb S1 iF I1 g3 g4 (g5.le hkw.1 hkw.1) (hkw.2.2 hwa) (if_neg (by omega)) g9)
              | (have hgap : sGap W y.2.1 (ln w) S1 = sAt S1 (S1.2.1 + 1) := if_pos (by omega)
                 have hgp := g5.gap (l := ln w) hH hw1.1
                 rw [hgap] at hgp
                 have hkw2 := hkw.2.1 (by omega)
                 exact hbody hwb (sAt S1 (S1.2.1 + 1)) iF _ g3.at (fun x j p q => by rw [u2_n (by omega)]; exact g4 x j p q) (hgp.1.le (by omega) (by omega)) hgp.2 ((if_pos (by omega)).trans hgap) g9)
              | (have hgap : sGap W y.2.1 (ln w) S1 = sLine y.2.1 S1 := if_neg (by omega)
                 have hgp := g5.gap (l := ln w) hH hw1.1
                 rw [hgap] at hgp
                 have hkw2 := hkw.2.1 (by omega)
                 exact hbody hwb (sLine y.2.1 S1) iF _ hI3.1 (hI3.2.trans g4) (hgp.1.le (by omega) (by omega)) hgp.2 ((if_pos (by omega)).trans hgap) g9)
              | (exfalso; omega)
        · refine r_aload_n dX8_flows_29 rfl ?_
          refine q_getI fl_X8_122 dX8_flows_30 sf_290 ?_
          rw [g3.2.1]
          refine r_iconst dX8_flows_33 ?_
          refine r_iadd dX8_flows_34 ?_
          refine r_iload dX8_flows_35 rfl ?_
          refine r_iadd dX8_flows_37 ?_
          refine r_iload dX8_flows_38 rfl ?_
          refine r_isub dX8_flows_40 ?_
          refine r_aload_n dX8_flows_41 rfl ?_
          refine q_getI fl_X8_110 dX8_flows_42 sf_290 ?_
          rw [hC1.1.1]
          refine r_icmpgt (tgt := 61) dX8_flows_45 (by decide) (by omega) (by omega) (fun h45 => ?_) (fun h45 => ?_)
          · refine r_iload_n dX8_flows_61 rfl ?_
            refine r_ifne (tgt := 69) dX8_flows_62 (by decide) (by omega) (fun h62 => ?_) (fun h62 => ?_)
            · first
                | (have hwa : w = a := by omega
                   exact hbody hwb S1 iF I1 g3 g4 (g5.le hkw.1 hkw.1) (hkw.2.2 hwa) (if_neg (by omega)) g9)
                | (have hgap : sGap W y.2.1 (ln w) S1 = sAt S1 (S1.2.1 + 1) := if_pos (by omega)
                   have hgp := g5.gap (l := ln w) hH hw1.1
                   rw [hgap] at hgp
                   have hkw2 := hkw.2.1 (by omega)
                   exact hbody hwb (sAt S1 (S1.2.1 + 1)) iF _ g3.at (fun x j p q => by rw [u2_n (by omega)]; exact g4 x j p q) (hgp.1.le (by omega) (by omega)) hgp.2 ((if_pos (by omega)).trans hgap) g9)
                | (have hgap : sGap W y.2.1 (ln w) S1 = sLine y.2.1 S1 := if_neg (by omega)
                   have hgp := g5.gap (l := ln w) hH hw1.1
                   rw [hgap] at hgp
                   have hkw2 := hkw.2.1 (by omega)
                   exact hbody hwb (sLine y.2.1 S1) iF _ hI3.1 (hI3.2.trans g4) (hgp.1.le (by omega) (by omega)) hgp.2 ((if_pos (by omega)).trans hgap) g9)
                | (exfalso; omega)
            · refine r_aload_n dX8_flows_65 rfl ?_
              refine q_callVW lk_X8_137 dX8_flows_66 (m_newLine I1 R hRO hC1 hWr hvl g3 g5 (by omega)) (by decide) sf_290 rfl rfl (Nat.le_of_ble_eq_true rfl) (by decide) (fun I3 hI3 => ?_)
              first
                | (have hwa : w = a := by omega
                   exact hbody hwb S1 iF I1 g3 g4 (g5.le hkw.1 hkw.1) (hkw.2.2 hwa) (if_neg (by omega)) g9)
                | (have hgap : sGap W y.2.1 (ln w) S1 = sAt S1 (S1.2.1 + 1) := if_pos (by omega)
                   have hgp := g5.gap (l := ln w) hH hw1.1
                   rw [hgap] at hgp
                   have hkw2 := hkw.2.1 (by omega)
                   exact hbody hwb (sAt S1 (S1.2.1 + 1)) iF _ g3.at (fun x j p q => by rw [u2_n (by omega)]; exact g4 x j p q) (hgp.1.le (by omega) (by omega)) hgp.2 ((if_pos (by omega)).trans hgap) g9)
                | (have hgap : sGap W y.2.1 (ln w) S1 = sLine y.2.1 S1 := if_neg (by omega)
                   have hgp := g5.gap (l := ln w) hH hw1.1
                   rw [hgap] at hgp
                   have hkw2 := hkw.2.1 (by omega)
                   exact hbody hwb (sLine y.2.1 S1) iF _ hI3.1 (hI3.2.trans g4) (hgp.1.le (by omega) (by omega)) hgp.2 ((if_pos (by omega)).trans hgap) g9)
                | (exfalso; omega)
          · refine r_aload_n dX8_flows_48 rfl ?_
            refine r_dup dX8_flows_49 ?_
            refine q_getI fl_X8_122 dX8_flows_50 sf_290 ?_
            rw [g3.2.1]
            refine r_iconst dX8_flows_53 ?_
            refine r_iadd dX8_flows_54 ?_
            refine q_putI fl_X8_122 dX8_flows_55 sf_290 ?_
            refine r_goto (tgt := 69) dX8_flows_58 (by decide) ?_
            first
              | (have hwa : w = a := by omega
                 exact hbody hwb S1 iF I1 g3 g4 (g5.le hkw.1 hkw.1) (hkw.2.2 hwa) (if_neg (by omega)) g9)
              | (have hgap : sGap W y.2.1 (ln w) S1 = sAt S1 (S1.2.1 + 1) := if_pos (by omega)
                 have hgp := g5.gap (l := ln w) hH hw1.1
                 rw [hgap] at hgp
                 have hkw2 := hkw.2.1 (by omega)
                 exact hbody hwb (sAt S1 (S1.2.1 + 1)) iF _ g3.at (fun x j p q => by rw [u2_n (by omega)]; exact g4 x j p q) (hgp.1.le (by omega) (by omega)) hgp.2 ((if_pos (by omega)).trans hgap) g9)
              | (have hgap : sGap W y.2.1 (ln w) S1 = sLine y.2.1 S1 := if_neg (by omega)
                 have hgp := g5.gap (l := ln w) hH hw1.1
                 rw [hgap] at hgp
                 have hkw2 := hkw.2.1 (by omega)
                 exact hbody hwb (sLine y.2.1 S1) iF _ hI3.1 (hI3.2.trans g4) (hgp.1.le (by omega) (by omega)) hgp.2 ((if_pos (by omega)).trans hgap) g9)
              | (exfalso; omega)
  refine CC_of (own := RX8) (ini := false) (by decide +kernel) rfl (fun h => absurd h (by decide)) (Nat.le_of_ble_eq_true rfl) ?_
  show WW cX8_flows RX8 6 none false 4 0 0 (PW R (fun I1 => MG I1 W v (sFl W y.2.1 cur st ln a (b - a).toNat a S) k ∧ MK I1 I)) 0 0 0 [some (.inr (some 290)), some (.inl (fr)), some (.inl (to)), none, none, none] [] (298, ShF, I, R)
  refine r_iconst dX8_flows_0 ?_
  refine r_istore_n dX8_flows_1 (by decide) ?_
  dsimp only [lset]
  refine r_aload_n dX8_flows_2 rfl ?_
  refine r_iload_n dX8_flows_3 rfl ?_
  refine r_iload_n dX8_flows_4 rfl ?_
  refine q_callVF lk_X8_131 dX8_flows_5 (m_wordFrom I R hRO hC hWr hvl fr to b a hF.2.2.1 hab hfr0 hto (fun q => hne a (Int.le_refl _) q) hok) (by decide) sf_290 rfl rfl (Nat.le_of_ble_eq_true rfl) (by decide) ?_
  refine r_istore dX8_flows_8 (by decide) ?_
  dsimp only [lset]
  exact hloop ((b - a).toNat + 1) a S k0 1 _ I (by omega) (by omega) hG (MK.rfl I) hI hk0 (fun q => ⟨(hst q).1, fun q => by omega, fun _ => (hst q).2⟩) rfl rfl (Or.inl ⟨rfl, rfl⟩)
