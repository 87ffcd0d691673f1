/-! the lines: the other object's fields -/
theorem lastG_tab (g : Int → Int) : ∀ n : Nat, n ≤ 80 → lastG g n = 0 ∨ TabF g (lastG g n)
  | 0, _ => Or.inl rfl
  | n + 1, hn => by
    unfold lastG
    split
    · next h => exact Or.inr ⟨by omega, by omega, h⟩
    · exact lastG_tab g n (by omega)
def sK (S : LSt) (j ld : Int) : LSt := if ld ≠ 0 ∧ 0 < j then sSeg S j ld 0 else sAt S (S.2.1 + j)
theorem sAt_z (S : LSt) : sAt S (S.2.1 + 0) = S := by
  rw [Int.add_zero]
  rfl
set_option maxHeartbeats 4000000 in
set_option maxRecDepth 100000 in
theorem m_ownStop (I : Mem) (R : RMem) (hRO : RefOk R) {W D p s : Int} {y v : YV} (hC : MC I W D p s y v) (hWr : 20 ≤ W ∧ W ≤ 80) (hvl : 0 ≤ v.2.1 ∧ v.2.1 ≤ 80) (hy : WfY y) (c : Int) (hc13 : I 290 13 = c) (hc : 0 ≤ c ∧ c ≤ 80) : CC 4 0 0 yX8_ownStop cX8_ownStop 2 (some .int) [.inr (some 290)] (298, ShF, I, R) (PF (if (bhG y.2.2 c 80) = -9 then -9 else cntF y.2.2 ((bhG y.2.2 c 80) - 1).toNat) I R) := by
  have hw14 := hC.1.1
  have hs15 := hC.1.2.1
  have hs := hC.2.2.1
  have hMY := hC.2.2.2.2.1
  have hs15 : I 290 15 = s := hs15
  have hY2 : I 291 (3 + 27 * s + 2) = cntF y.2.2 80 := hMY.2.2.1
  have h8 := hy.2.2.2
  have hcb := cntF_bd y.2.2 80
  have hBR := bhG_R (g := y.2.2) (c := c)
  have hloop : ∀ (n : Nat) (k : Int), 8 < k + n → (0 ≤ k ∧ k ≤ cntF y.2.2 80) → (∀ q : Int, TabF y.2.2 q → c < q → k ≤ cntF y.2.2 (q - 1).toNat) → WW cX8_ownStop RX8 2 (some .int) false 4 0 0 (PF (if (bhG y.2.2 c 80) = -9 then -9 else cntF y.2.2 ((bhG y.2.2 c 80) - 1).toNat) I R) 0 0 2 [some (.inr (some 290)), some (.inl (k))] [] (298, ShF, I, R) := by
    intro n
    induction n with
    | zero => intros; exfalso; omega
    | succ n ih =>
      intro k g1 g2 g3
      refine r_iload_n dX8_ownStop_2 rfl ?_
      refine r_aload_n dX8_ownStop_3 rfl ?_
      refine r_aload_n dX8_ownStop_4 rfl ?_
      refine q_getI fl_X8_119 dX8_ownStop_5 sf_290 ?_
      rw [hs15]
      refine r_iconst dX8_ownStop_8 ?_
      refine q_callVF lk_X8_44 dX8_ownStop_9 (m_of I R hRO s 2 (by omega)) (by decide) sf_290 rfl rfl (Nat.le_of_ble_eq_true rfl) (by decide) ?_
      rw [hY2]
      refine r_icmpge (tgt := 54) dX8_ownStop_12 (by decide) (by omega) (by omega) (fun h12 => ?_) (fun h12 => ?_)
      · refine r_bipush dX8_ownStop_54 (by decide) ?_
        refine q_iretF dX8_ownStop_56 rfl ?_
        rcases hBR with h | h
        · rw [if_pos h.1]
        · have h6 := g3 _ h.1 h.2.1
          have h7 := cnt_lt (f := y.2.2) (p := bhG y.2.2 c 80) ⟨h.1.1, h.1.2.1, h.1.2.2.1⟩
          omega
      · obtain ⟨q, hq1, hq2, hq3, hq4, -⟩ := hMY.pos (k := k) (by omega)
        have hq3 : I 291 (3 + 27 * s + (3 + 3 * k)) = q := hq3
        have hq4 : I 291 (3 + 27 * s + (3 + 3 * k + 1)) = (y.2.2 q - 1) / 4 := hq4
        have hqv := hy.2.2.1 q hq1.1 hq1.2.1
        have hq11 := hq1.1
        have hq12 := hq1.2.1
        refine r_aload_n dX8_ownStop_15 rfl ?_
        refine r_aload_n dX8_ownStop_16 rfl ?_
        refine q_getI fl_X8_119 dX8_ownStop_17 sf_290 ?_
        rw [hs15]
        refine r_iload_n dX8_ownStop_20 rfl ?_
        refine r_iconst dX8_ownStop_21 ?_
        refine q_callVF lk_X8_54 dX8_ownStop_22 (m_stopOf I R hRO s k 1 (by omega)) (by decide) sf_290 rfl rfl (Nat.le_of_ble_eq_true rfl) (by decide) ?_
        rw [hq4]
        refine r_iconst dX8_ownStop_25 ?_
        refine r_icmpge (tgt := 48) dX8_ownStop_26 (by decide) (by omega) (by omega) (fun h26 => ?_) (fun h26 => ?_)
        · refine r_iinc dX8_ownStop_48 rfl (by decide) ?_
          dsimp only [lset]
          refine r_goto (tgt := 2) dX8_ownStop_51 (by decide) ?_
          refine ih (k + 1) (by omega) (by omega) (fun x hx hcx => ?_)
          have h1 := g3 x hx hcx
          by_cases hxk : cntF y.2.2 (x - 1).toNat = k
          · have hxq := rank_eq ⟨hx.1, hx.2.1, hx.2.2.1⟩ hq1 (by omega)
            have := hx.2.2.2
            exfalso
            rw [hxq] at this hcx
            omega
          · omega
        · refine r_aload_n dX8_ownStop_29 rfl ?_
          refine r_aload_n dX8_ownStop_30 rfl ?_
          refine q_getI fl_X8_119 dX8_ownStop_31 sf_290 ?_
          rw [hs15]
          refine r_iload_n dX8_ownStop_34 rfl ?_
          refine r_iconst dX8_ownStop_35 ?_
          refine q_callVF lk_X8_54 dX8_ownStop_36 (m_stopOf I R hRO s k 0 (by omega)) (by decide) sf_290 rfl rfl (Nat.le_of_ble_eq_true rfl) (by decide) ?_
          rw [Int.add_zero, hq3]
          refine r_aload_n dX8_ownStop_39 rfl ?_
          refine q_getI fl_X8_122 dX8_ownStop_40 sf_290 ?_
          rw [hc13]
          refine r_icmple (tgt := 48) dX8_ownStop_43 (by decide) (by omega) (by omega) (fun h43 => ?_) (fun h43 => ?_)
          · refine r_iinc dX8_ownStop_48 rfl (by decide) ?_
            dsimp only [lset]
            refine r_goto (tgt := 2) dX8_ownStop_51 (by decide) ?_
            refine ih (k + 1) (by omega) (by omega) (fun x hx hcx => ?_)
            have h1 := g3 x hx hcx
            by_cases hxk : cntF y.2.2 (x - 1).toNat = k
            · have hxq := rank_eq ⟨hx.1, hx.2.1, hx.2.2.1⟩ hq1 (by omega)
              have := hx.2.2.2
              exfalso
              rw [hxq] at this hcx
              omega
            · omega
          · refine r_iload_n dX8_ownStop_46 rfl ?_
            refine q_iretF dX8_ownStop_47 rfl ?_
            have hqt : TabF y.2.2 q := ⟨hq1.1, hq1.2.1, hq1.2.2, by omega⟩
            rcases hBR with h | h
            · have := h.2 q hqt; omega
            · have h5 := h.2.2 q hqt (by omega)
              have h6 := g3 _ h.1 h.2.1
              have h7 : StpF y.2.2 (bhG y.2.2 c 80) := ⟨h.1.1, h.1.2.1, h.1.2.2.1⟩
              have h9 := h.1.1
              have h10 : bhG y.2.2 c 80 = q := by
                by_cases hlt : bhG y.2.2 c 80 < q
                · have := cnt_inj h7 hq1 hlt
                  omega
                · omega
              rw [h10, if_neg (by omega), hq2]
  refine CC_of (own := RX8) (ini := false) (by decide +kernel) rfl (fun h => absurd h (by decide)) (Nat.le_of_ble_eq_true rfl) ?_
  show WW cX8_ownStop RX8 2 (some .int) false 4 0 0 (PF (if (bhG y.2.2 c 80) = -9 then -9 else cntF y.2.2 ((bhG y.2.2 c 80) - 1).toNat) I R) 0 0 0 [some (.inr (some 290)), none] [] (298, ShF, I, R)
  refine r_iconst dX8_ownStop_0 ?_
  refine r_istore_n dX8_ownStop_1 (by decide) ?_
  dsimp only [lset]
  exact hloop 9 0 (by omega) (by omega) (fun q _ _ => (cntF_bd y.2.2 (q - 1).toNat).1)
set_option maxHeartbeats 4000000 in
set_option maxRecDepth 100000 in
theorem m_leads (I : Mem) (R : RMem) (hRO : RefOk R) {W : Int} {v : YV} (hWr : 20 ≤ W ∧ W ≤ 80) {S : LSt} {k : Int} (hG : MG I W v S k) {kr kp : Int} (hI : Inv W S kr kp) (hkr : kr ≤ 84) (to ld : Int) (hto : S.2.1 ≤ to ∧ to ≤ W) (hld : 0 ≤ ld ∧ ld ≤ 3) : CC 1 0 0 yX8_leads cX8_leads 3 none [.inr (some 290), .inl (to), .inl (ld)] (298, ShF, I, R) (PW R (fun I1 => MG I1 W v (if ld ≠ 0 ∧ S.2.1 < to then sSeg S (to - S.2.1) ld 0 else sAt S to) k ∧ MK I1 I)) := by
  have hi1 := hI.1
  have hi2 := hI.2.1
  have hsame : ∀ j : Int, (sK S j ld).1 = S.1 ∧ (sK S j ld).2.1 = S.2.1 + j := fun j => by
    unfold sK
    split <;> exact ⟨rfl, rfl⟩
  have hloop : ∀ (n : Nat) (j : Int) (I1 : Mem), to - S.2.1 < j + n → (0 ≤ j ∧ j ≤ to - S.2.1) → MG I1 W v (sK S j ld) k → MK I1 I → WW cX8_leads RX8 3 none false 1 0 0 (PW R (fun I1 => MG I1 W v (if ld ≠ 0 ∧ S.2.1 < to then sSeg S (to - S.2.1) ld 0 else sAt S to) k ∧ MK I1 I)) 0 0 0 [some (.inr (some 290)), some (.inl (to)), some (.inl (ld))] [] (298, ShF, I1, R) := by
    intro n
    induction n with
    | zero => intros; exfalso; omega
    | succ n ih =>
      intro j I1 g1 g2 g3 g4
      refine r_aload_n dX8_leads_0 rfl ?_
      refine q_getI fl_X8_122 dX8_leads_1 sf_290 ?_
      rw [g3.2.1, (hsame j).2]
      refine r_iload_n dX8_leads_4 rfl ?_
      refine r_icmpge (tgt := 55) dX8_leads_5 (by decide) (by omega) (by omega) (fun h5 => ?_) (fun h5 => ?_)
      · refine q_vretW dX8_leads_55 rfl ?_
        have hj : j = to - S.2.1 := by omega
        refine ⟨?_, g4⟩
        by_cases hb : ld ≠ 0 ∧ S.2.1 < to
        · rw [if_pos hb]
          have e1 : sK S j ld = sSeg S j ld 0 := if_pos ⟨hb.1, by omega⟩
          rw [e1, hj] at g3
          exact g3
        · rw [if_neg hb]
          have e1 : sK S j ld = sAt S (S.2.1 + j) := if_neg (by omega)
          rw [e1, show S.2.1 + j = to by omega] at g3
          exact g3
      · refine r_iload_n dX8_leads_8 rfl ?_
        refine r_ifle (tgt := 42) dX8_leads_9 (by decide) (by omega) (fun h9 => ?_) (fun h9 => ?_)
        · refine r_aload_n dX8_leads_42 rfl ?_
          refine r_dup dX8_leads_43 ?_
          refine q_getI fl_X8_122 dX8_leads_44 sf_290 ?_
          rw [g3.2.1, (hsame j).2]
          refine r_iconst dX8_leads_47 ?_
          refine r_iadd dX8_leads_48 ?_
          refine q_putI fl_X8_122 dX8_leads_49 sf_290 ?_
          refine r_goto (tgt := 0) dX8_leads_52 (by decide) ?_
          first
            | (have h0 : ld = 0 := by omega
               have hG2 : MG (u2 I1 290 13 (S.2.1 + j + 1)) W v (sK S (j + 1) ld) k := by
                 have e1 : sK S j ld = sAt S (S.2.1 + j) := if_neg (by omega)
                 have e2 : sK S (j + 1) ld = sAt S (S.2.1 + j + 1) := (if_neg (by omega)).trans (by rw [show S.2.1 + (j + 1) = S.2.1 + j + 1 by omega])
                 rw [e1] at g3
                 rw [e2]
                 exact MG.at (S := sAt S (S.2.1 + j)) g3
               exact ih (j + 1) _ (by omega) (by omega) hG2 (fun x q p1 p2 => by rw [u2_n (by omega)]; exact g4 x q p1 p2))
            | (subst hI2
               have hG0 : MG I1 W v (sSeg S j ld 0) k := by
                 by_cases hj : 0 < j
                 · have e1 : sK S j ld = sSeg S j ld 0 := if_pos ⟨by omega, hj⟩
                   rw [e1] at g3
                   exact g3
                 · have e1 : sK S j ld = sAt S (S.2.1 + j) := if_neg (by omega)
                   have hj0 : j = 0 := by omega
                   rw [e1, hj0, sAt_z] at g3
                   rw [hj0]
                   exact g3.seg0 hI ld 0
               have e2 : sK S (j + 1) ld = sSeg S (j + 1) ld 0 := if_pos ⟨by omega, by omega⟩
               refine ih (j + 1) _ (by omega) (by omega) ?_ ((wrI_k _ _ _).trans g4)
               rw [e2]
               refine hG0.seg hI hWr.2 (by omega) ?_ (if_neg (by omega)).symm
               rw [if_neg (show ¬ ld = 0 by omega)]
               unfold ldC
               first
                 | (rw [if_pos (show ld = 1 by omega)])
                 | (rw [if_neg (show ¬ ld = 1 by omega), if_pos (show ld = 2 by omega)])
                 | (rw [if_neg (show ¬ ld = 1 by omega), if_neg (show ¬ ld = 2 by omega), if_pos (show ld = 3 by omega)]))
        · refine r_aload_n dX8_leads_12 rfl ?_
          refine r_iload_n dX8_leads_13 rfl ?_
          refine r_iconst dX8_leads_14 ?_
          refine r_icmpne (tgt := 23) dX8_leads_15 (by decide) (by omega) (by omega) (fun h15 => ?_) (fun h15 => ?_)
          · refine r_iload_n dX8_leads_23 rfl ?_
            refine r_iconst dX8_leads_24 ?_
            refine r_icmpne (tgt := 33) dX8_leads_25 (by decide) (by omega) (by omega) (fun h25 => ?_) (fun h25 => ?_)
            · refine r_bipush dX8_leads_33 (by decide) ?_
              refine r_iconst dX8_leads_35 ?_
              refine q_callVW lk_X8_140 dX8_leads_36 (m_writes I1 R hRO _ 2 (by omega) (by omega) (by rw [g3.1, g3.2.1, (hsame j).1, (hsame j).2]; omega)) (by decide) sf_290 rfl rfl (Nat.le_of_ble_eq_true rfl) (by decide) (fun I2 hI2 => ?_)
              refine r_goto (tgt := 0) dX8_leads_39 (by decide) ?_
              first
                | (have h0 : ld = 0 := by omega
                   have hG2 : MG (u2 I1 290 13 (S.2.1 + j + 1)) W v (sK S (j + 1) ld) k := by
                     have e1 : sK S j ld = sAt S (S.2.1 + j) := if_neg (by omega)
                     have e2 : sK S (j + 1) ld = sAt S (S.2.1 + j + 1) := (if_neg (by omega)).trans (by rw [show S.2.1 + (j + 1) = S.2.1 + j + 1 by omega])
                     rw [e1] at g3
                     rw [e2]
                     exact MG.at (S := sAt S (S.2.1 + j)) g3
                   exact ih (j + 1) _ (by omega) (by omega) hG2 (fun x q p1 p2 => by rw [u2_n (by omega)]; exact g4 x q p1 p2))
                | (subst hI2
                   have hG0 : MG I1 W v (sSeg S j ld 0) k := by
                     by_cases hj : 0 < j
                     · have e1 : sK S j ld = sSeg S j ld 0 := if_pos ⟨by omega, hj⟩
                       rw [e1] at g3
                       exact g3
                     · have e1 : sK S j ld = sAt S (S.2.1 + j) := if_neg (by omega)
                       have hj0 : j = 0 := by omega
                       rw [e1, hj0, sAt_z] at g3
                       rw [hj0]
                       exact g3.seg0 hI ld 0
                   have e2 : sK S (j + 1) ld = sSeg S (j + 1) ld 0 := if_pos ⟨by omega, by omega⟩
                   refine ih (j + 1) _ (by omega) (by omega) ?_ ((wrI_k _ _ _).trans g4)
                   rw [e2]
                   refine hG0.seg hI hWr.2 (by omega) ?_ (if_neg (by omega)).symm
                   rw [if_neg (show ¬ ld = 0 by omega)]
                   unfold ldC
                   first
                     | (rw [if_pos (show ld = 1 by omega)])
                     | (rw [if_neg (show ¬ ld = 1 by omega), if_pos (show ld = 2 by omega)])
                     | (rw [if_neg (show ¬ ld = 1 by omega), if_neg (show ¬ ld = 2 by omega), if_pos (show ld = 3 by omega)]))
            · refine r_bipush dX8_leads_28 (by decide) ?_
              refine r_goto (tgt := 35) dX8_leads_30 (by decide) ?_
              refine r_iconst dX8_leads_35 ?_
              refine q_callVW lk_X8_140 dX8_leads_36 (m_writes I1 R hRO _ 2 (by omega) (by omega) (by rw [g3.1, g3.2.1, (hsame j).1, (hsame j).2]; omega)) (by decide) sf_290 rfl rfl (Nat.le_of_ble_eq_true rfl) (by decide) (fun I2 hI2 => ?_)
              refine r_goto (tgt := 0) dX8_leads_39 (by decide) ?_
              first
                | (have h0 : ld = 0 := by omega
                   have hG2 : MG (u2 I1 290 13 (S.2.1 + j + 1)) W v (sK S (j + 1) ld) k := by
                     have e1 : sK S j ld = sAt S (S.2.1 + j) := if_neg (by omega)
                     have e2 : sK S (j + 1) ld = sAt S (S.2.1 + j + 1) := (if_neg (by omega)).trans (by rw [show S.2.1 + (j + 1) = S.2.1 + j + 1 by omega])
                     rw [e1] at g3
                     rw [e2]
                     exact MG.at (S := sAt S (S.2.1 + j)) g3
                   exact ih (j + 1) _ (by omega) (by omega) hG2 (fun x q p1 p2 => by rw [u2_n (by omega)]; exact g4 x q p1 p2))
                | (subst hI2
                   have hG0 : MG I1 W v (sSeg S j ld 0) k := by
                     by_cases hj : 0 < j
                     · have e1 : sK S j ld = sSeg S j ld 0 := if_pos ⟨by omega, hj⟩
                       rw [e1] at g3
                       exact g3
                     · have e1 : sK S j ld = sAt S (S.2.1 + j) := if_neg (by omega)
                       have hj0 : j = 0 := by omega
                       rw [e1, hj0, sAt_z] at g3
                       rw [hj0]
                       exact g3.seg0 hI ld 0
                   have e2 : sK S (j + 1) ld = sSeg S (j + 1) ld 0 := if_pos ⟨by omega, by omega⟩
                   refine ih (j + 1) _ (by omega) (by omega) ?_ ((wrI_k _ _ _).trans g4)
                   rw [e2]
                   refine hG0.seg hI hWr.2 (by omega) ?_ (if_neg (by omega)).symm
                   rw [if_neg (show ¬ ld = 0 by omega)]
                   unfold ldC
                   first
                     | (rw [if_pos (show ld = 1 by omega)])
                     | (rw [if_neg (show ¬ ld = 1 by omega), if_pos (show ld = 2 by omega)])
                     | (rw [if_neg (show ¬ ld = 1 by omega), if_neg (show ¬ ld = 2 by omega), if_pos (show ld = 3 by omega)]))
          · refine r_bipush dX8_leads_18 (by decide) ?_
            refine r_goto (tgt := 35) dX8_leads_20 (by decide) ?_
            refine r_iconst dX8_leads_35 ?_
            refine q_callVW lk_X8_140 dX8_leads_36 (m_writes I1 R hRO _ 2 (by omega) (by omega) (by rw [g3.1, g3.2.1, (hsame j).1, (hsame j).2]; omega)) (by decide) sf_290 rfl rfl (Nat.le_of_ble_eq_true rfl) (by decide) (fun I2 hI2 => ?_)
            refine r_goto (tgt := 0) dX8_leads_39 (by decide) ?_
            first
              | (have h0 : ld = 0 := by omega
                 have hG2 : MG (u2 I1 290 13 (S.2.1 + j + 1)) W v (sK S (j + 1) ld) k := by
                   have e1 : sK S j ld = sAt S (S.2.1 + j) := if_neg (by omega)
                   have e2 : sK S (j + 1) ld = sAt S (S.2.1 + j + 1) := (if_neg (by omega)).trans (by rw [show S.2.1 + (j + 1) = S.2.1 + j + 1 by omega])
                   rw [e1] at g3
                   rw [e2]
                   exact MG.at (S := sAt S (S.2.1 + j)) g3
                 exact ih (j + 1) _ (by omega) (by omega) hG2 (fun x q p1 p2 => by rw [u2_n (by omega)]; exact g4 x q p1 p2))
              | (subst hI2
                 have hG0 : MG I1 W v (sSeg S j ld 0) k := by
                   by_cases hj : 0 < j
                   · have e1 : sK S j ld = sSeg S j ld 0 := if_pos ⟨by omega, hj⟩
                     rw [e1] at g3
                     exact g3
                   · have e1 : sK S j ld = sAt S (S.2.1 + j) := if_neg (by omega)
                     have hj0 : j = 0 := by omega
                     rw [e1, hj0, sAt_z] at g3
                     rw [hj0]
                     exact g3.seg0 hI ld 0
                 have e2 : sK S (j + 1) ld = sSeg S (j + 1) ld 0 := if_pos ⟨by omega, by omega⟩
                 refine ih (j + 1) _ (by omega) (by omega) ?_ ((wrI_k _ _ _).trans g4)
                 rw [e2]
                 refine hG0.seg hI hWr.2 (by omega) ?_ (if_neg (by omega)).symm
                 rw [if_neg (show ¬ ld = 0 by omega)]
                 unfold ldC
                 first
                   | (rw [if_pos (show ld = 1 by omega)])
                   | (rw [if_neg (show ¬ ld = 1 by omega), if_pos (show ld = 2 by omega)])
                   | (rw [if_neg (show ¬ ld = 1 by omega), if_neg (show ¬ ld = 2 by omega), if_pos (show ld = 3 by omega)]))
  have e0 : sK S 0 ld = S := (if_neg (by omega)).trans (sAt_z S)
  have h0 := hloop ((to - S.2.1).toNat + 1) 0 I (by omega) (by omega) (by rw [e0]; exact hG) (MK.rfl I)
  refine CC_of (own := RX8) (ini := false) (by decide +kernel) rfl (fun h => absurd h (by decide)) (Nat.le_of_ble_eq_true rfl) ?_
  exact h0
set_option maxHeartbeats 4000000 in
set_option maxRecDepth 100000 in
theorem m_flowsAnew (I : Mem) (R : RMem) (hRO : RefOk R) {W D p s : Int} {y v : YV} (hC : MC I W D p s y v) (hWr : 20 ≤ W ∧ W ≤ 80) (hvl : 0 ≤ v.2.1 ∧ v.2.1 ≤ 80) (hok : ∀ j : Int, 0 ≤ j → j < v.2.1 → okc (v.2.2 j)) (hH : 0 ≤ y.2.1 ∧ y.2.1 < W) (cur : Int) (hcur : I 290 17 = cur) (hc81 : 0 ≤ cur ∧ cur < 81) {S : LSt} (hG : MG I W v S cur) {st ln : Int → Int} (fr to a b : Int) (hF : Fk st ln v.2.2 fr to a b) (hto : to ≤ v.2.1) {k0 : Int} (hI : Inv W S k0 k0) (hk0 : k0 + 1 ≤ fr) : CC 5 0 0 yX8_flowsAnew cX8_flowsAnew 3 none [.inr (some 290), .inl (fr), .inl (to)] (298, ShF, I, R) (PW R (fun I1 => MG I1 W v (sFl W y.2.1 cur st ln a (b - a).toNat a (sBeg cur (sLine y.2.1 S) (-9) (-9) (-9))) (cur + 1) ∧ MK I1 I)) := by
  have hi1 := hI.1
  have hbd := hF.bd
  refine CC_of (own := RX8) (ini := false) (by decide +kernel) rfl (fun h => absurd h (by decide)) (Nat.le_of_ble_eq_true rfl) ?_
  show WW cX8_flowsAnew RX8 3 none false 5 0 0 (PW R (fun I1 => MG I1 W v (sFl W y.2.1 cur st ln a (b - a).toNat a (sBeg cur (sLine y.2.1 S) (-9) (-9) (-9))) (cur + 1) ∧ MK I1 I)) 0 0 0 [some (.inr (some 290)), some (.inl (fr)), some (.inl (to))] [] (298, ShF, I, R)
  refine r_aload_n dX8_flowsAnew_0 rfl ?_
  refine q_callVW lk_X8_137 dX8_flowsAnew_1 (m_newLine I R hRO hC hWr hvl hG hI (by omega)) (by decide) sf_290 rfl rfl (Nat.le_of_ble_eq_true rfl) (by decide) (fun I3 hI3 => ?_)
  refine r_aload_n dX8_flowsAnew_4 rfl ?_
  refine r_bipush dX8_flowsAnew_5 (by decide) ?_
  refine r_bipush dX8_flowsAnew_7 (by decide) ?_
  refine r_bipush dX8_flowsAnew_9 (by decide) ?_
  refine q_callVW lk_X8_146 dX8_flowsAnew_11 (m_begins I3 R hRO cur ((hI3.2 _ _ (by omega) (by omega)).trans hcur) hc81 _ _ _) (by decide) sf_290 rfl rfl (Nat.le_of_ble_eq_true rfl) (by decide) (fun I4 hI4 => ?_)
  have hG4 : MG I4 W v (sBeg cur (sLine y.2.1 S) (-9) (-9) (-9)) (cur + 1) := by
    rw [hI4]
    exact hI3.1.beg hc81.1
  have hk4 : MK I4 I := fun x j p q => by
    rw [hI4, mbI_n (by omega)]
    exact hI3.2 x j p q
  refine r_aload_n dX8_flowsAnew_14 rfl ?_
  refine r_iload_n dX8_flowsAnew_15 rfl ?_
  refine r_iload_n dX8_flowsAnew_16 rfl ?_
  refine q_callVW lk_X8_150 dX8_flowsAnew_17 (m_flows I4 R hRO (hC.kept hk4) hWr hvl hok hH cur ((hk4 _ _ (by omega) (by omega)).trans hcur) hc81 (by omega) hG4 fr to a b hF hto (((hI.line (H := y.2.1) ⟨hH.1, by omega⟩).le (kr1 := k0 + 1) (kp1 := k0 + 1) (Int.le_refl _) (by omega)).beg cur (-9) (-9) (-9)) (by omega) (fun q => ⟨by have := (hF.2.2.1.1 q).1; omega, hH.2⟩) (by rw [sBeg_F0]; show 0 ≤ S.1 + 1 ∧ S.1 + 1 ≤ 80; omega)) (by decide) sf_290 rfl rfl (Nat.le_of_ble_eq_true rfl) (by decide) (fun I5 hI5 => ?_)
  refine q_vretW dX8_flowsAnew_20 rfl ?_
  exact ⟨hI5.1, hI5.2.trans hk4⟩
theorem Fk.from {st ln ch : Int → Int} {fr to a b : Int} (h : Fk st ln ch fr to a b) (hab : a < b) : Fk st ln ch (st a) to a b := by
  have hw := h.2.2.2 a (Int.le_refl _) hab
  exact ⟨h.1, hw.1.2.1, ⟨fun _ => ⟨Int.le_refl _, fun x x1 x2 => by omega⟩, fun q => by omega⟩, h.2.2.2⟩
set_option maxHeartbeats 4000000 in
set_option maxRecDepth 100000 in
theorem m_laysField (I : Mem) (R : RMem) (hRO : RefOk R) {W D p s : Int} {y v : YV} (hC : MC I W D p s y v) (hWr : 20 ≤ W ∧ W ≤ 80) (hvl : 0 ≤ v.2.1 ∧ v.2.1 ≤ 80) (hok : ∀ j : Int, 0 ≤ j → j < v.2.1 → okc (v.2.2 j)) (hH : 0 ≤ y.2.1 ∧ y.2.1 < W) (cur : Int) (hcur : I 290 17 = cur) (hc81 : 0 ≤ cur ∧ cur < 81) {S : LSt} (hG : MG I W v S cur) (hD : 2 ≤ D ∧ D ≤ 20) (hy : WfY y) {st ln pt : Int → Int} (fr to a b : Int) (hFp : Fp v.2.2 st ln pt fr to a b) (hab0 : 0 ≤ a ∧ b ≤ 80) (hto : to ≤ v.2.1) {k0 : Int} (hI : Inv W S k0 k0) (hk0 : k0 + 1 ≤ fr) : CC 6 0 0 yX8_laysField cX8_laysField 12 none [.inr (some 290), .inl (fr), .inl (to)] (298, ShF, I, R) (PW R (fun I1 => MG I1 W v (sTab W D y.2.1 y.2.2 st ln pt cur a b S) (cur + 1) ∧ MK I1 I)) := by
  have hw14 := hC.1.1
  have hs15 := hC.1.2.1
  have hs := hC.2.2.1
  have hMY := hC.2.2.2.2.1
  have hF := hFp.1
  have hi1 := hI.1
  have hi2 := hI.2.1
  have hi3 := hI.2.2.1
  have hbd := hF.bd
  have hab := hF.1
  have hfr0 := hF.2.1
  have hWk := hF.2.2.2
  have hln := hFp.ln
  have hc13 : I 290 13 = S.2.1 := hG.2.1
  have hD1 : I 291 1 = D := hC.2.2.2.1
  have hpb := tPos_bd (c := S.2.1) hD hi2.1 hy.2.2.1
  have hBR := bhG_R (g := y.2.2) (c := S.2.1)
  have hne : ∀ w : Int, a ≤ w → w < b → st w < to ∧ v.2.2 (st w) ≠ 32 := fun w w1 w2 => by
    have h := hWk w w1 w2
    have h1 := h.1
    exact ⟨by omega, h.2.1 _ (Int.le_refl _) (by omega)⟩
  have hrn := sRun_bd (room := W - (if (tKd y.2.2 S.2.1) = 0 then (tPos y.2.2 D S.2.1) else S.2.1)) hab hln
  have er : sRun ln pt (W - (if (tKd y.2.2 S.2.1) = 0 then (tPos y.2.2 D S.2.1) else S.2.1)) a b = (tRun W D y.2.2 ln pt a b S.2.1) := rfl
  rw [er] at hrn
  obtain ⟨qn, hqn, hqe⟩ := sRun_F ln pt (W - (if (tKd y.2.2 S.2.1) = 0 then (tPos y.2.2 D S.2.1) else S.2.1)) a b
  rw [er] at hqe
  have hq1 : (tRun W D y.2.2 ln pt a b S.2.1).1 = a + qn := by rw [hqe]
  have hq2 : (tRun W D y.2.2 ln pt a b S.2.1).2.1 = rlF ln a qn := by rw [hqe]
  have hq3 : (tRun W D y.2.2 ln pt a b S.2.1).2.2 = if rpF ln pt a qn = -1 then rlF ln a qn else rpF ln pt a qn := by rw [hqe]
  have hqq : ((tRun W D y.2.2 ln pt a b S.2.1).1 - a).toNat = qn := by omega
  obtain ⟨E, hE⟩ : ∃ E : Int, E = (if (tRun W D y.2.2 ln pt a b S.2.1).1 = a then nxW st to b a else st ((tRun W D y.2.2 ln pt a b S.2.1).1 - 1) + ln ((tRun W D y.2.2 ln pt a b S.2.1).1 - 1)) := ⟨_, rfl⟩
  obtain ⟨N, hN⟩ : ∃ N : Int, N = nxW st to b a := ⟨_, rfl⟩
  have hNa : (a < b → N = st a) ∧ (a = b → N = to) := ⟨fun q => hN.trans (if_pos q), fun q => hN.trans (if_neg (by omega))⟩
  have hEa : ((tRun W D y.2.2 ln pt a b S.2.1).1 = a → E = N) ∧ (a < (tRun W D y.2.2 ln pt a b S.2.1).1 → E = st ((tRun W D y.2.2 ln pt a b S.2.1).1 - 1) + ln ((tRun W D y.2.2 ln pt a b S.2.1).1 - 1)) := ⟨fun q => by rw [hE, if_pos q, hN], fun q => by rw [hE, if_neg (by omega)]⟩
  have hNfr : fr ≤ N ∧ N ≤ to := by
    by_cases hb : a < b
    · have h1 := (hF.2.2.1.1 hb).1
      have h2 := (hne a (Int.le_refl _) hb).1
      rw [hNa.1 hb]
      omega
    · rw [hNa.2 (by omega)]
      omega
  have hEN : (a < (tRun W D y.2.2 ln pt a b S.2.1).1 → N < E ∧ E ≤ to) := fun q => by
    have h1 := hF.sub (e := (tRun W D y.2.2 ln pt a b S.2.1).1) q hrn.1.2
    have h2 := (h1.1.from q).2.2.2 a (Int.le_refl _) q
    rw [hNa.1 (by omega), hEa.2 q]
    have := h2.1
    omega
  have hEb : N ≤ E ∧ E ≤ to := by
    by_cases q : a < (tRun W D y.2.2 ln pt a b S.2.1).1
    · have := hEN q; omega
    · rw [hEa.1 (by omega)]; omega
  have hFr : Fk st ln v.2.2 N E a (tRun W D y.2.2 ln pt a b S.2.1).1 := by
    by_cases q : a < (tRun W D y.2.2 ln pt a b S.2.1).1
    · rw [hNa.1 (by omega), hEa.2 q]
      exact (hF.sub q hrn.1.2).1.from q
    · have q2 : (tRun W D y.2.2 ln pt a b S.2.1).1 = a := by omega
      rw [hEa.1 q2, q2]
      exact Fk.zero _ _ _ (by omega)
  have hFpr : Fp v.2.2 st ln pt N E a (tRun W D y.2.2 ln pt a b S.2.1).1 := ⟨hFr, fun w w1 w2 => hFp.2 w w1 (by omega)⟩
  have h296 : ∀ (o : Int), ((o = -9 ∧ bhG y.2.2 S.2.1 80 = -9) ∨ (0 ≤ o ∧ o ≤ 7 ∧ bhG y.2.2 S.2.1 80 ≠ -9 ∧ I 291 (3 + 27 * s + (3 + 3 * o)) = bhG y.2.2 S.2.1 80 ∧ I 291 (3 + 27 * s + (3 + 3 * o + 1)) = ((y.2.2 (bhG y.2.2 S.2.1 80)) - 1) / 4 ∧ I 291 (3 + 27 * s + (3 + 3 * o + 2)) = ((y.2.2 (bhG y.2.2 S.2.1 80)) - 1) % 4)) → ¬ (W < (tPos y.2.2 D S.2.1) ∨ (a < b ∧ (tRun W D y.2.2 ln pt a b S.2.1).1 = a)) → WW cX8_laysField RX8 12 none false 6 0 0 (PW R (fun I1 => MG I1 W v (sTab W D y.2.1 y.2.2 st ln pt cur a b S) (cur + 1) ∧ MK I1 I)) 0 0 296 [some (.inr (some 290)), some (.inl fr), some (.inl to), some (.inl o), some (.inl (tPos y.2.2 D S.2.1)), some (.inl (tKd y.2.2 S.2.1)), some (.inl N), some (.inl E), some (.inl (tRun W D y.2.2 ln pt a b S.2.1).2.1), some (.inl (rB W S.2.1 (tPos y.2.2 D S.2.1) (tKd y.2.2 S.2.1) (tRun W D y.2.2 ln pt a b S.2.1))), some (.inl (rM W S.2.1 (tPos y.2.2 D S.2.1) (tKd y.2.2 S.2.1) (tRun W D y.2.2 ln pt a b S.2.1))), none] [.inl (tLd y.2.2 S.2.1), .inl (rB W S.2.1 (tPos y.2.2 D S.2.1) (tKd y.2.2 S.2.1) (tRun W D y.2.2 ln pt a b S.2.1)), .inr (some 290)] (298, ShF, I, R) := by
    intro o ho hno
    have hBB := rB_in (D := D) (c := S.2.1) (kd := (tKd y.2.2 S.2.1)) (t := (tRun W D y.2.2 ln pt a b S.2.1)) (a := a) (pos := (tPos y.2.2 D S.2.1)) hi2 ⟨hpb.1.1, by omega⟩ ⟨hrn.1.1, hrn.2.1, hrn.2.2.1, hrn.2.2.2⟩
    refine q_callVW lk_X8_172 dX8_laysField_296 (m_leads I R hRO hWr hG hI (by omega) (rB W S.2.1 (tPos y.2.2 D S.2.1) (tKd y.2.2 S.2.1) (tRun W D y.2.2 ln pt a b S.2.1)) (tLd y.2.2 S.2.1) ⟨hBB.1, by omega⟩ (by omega)) (by decide) sf_290 rfl rfl (Nat.le_of_ble_eq_true rfl) (by decide) (fun I4 hI4 => ?_)
    refine r_aload_n dX8_laysField_299 rfl ?_
    refine r_iload dX8_laysField_300 rfl ?_
    refine r_iload dX8_laysField_302 rfl ?_
    refine r_iload dX8_laysField_304 rfl ?_
    refine q_callVW lk_X8_146 dX8_laysField_306 (m_begins I4 R hRO cur ((hI4.2 _ _ (by omega) (by omega)).trans hcur) hc81 (tPos y.2.2 D S.2.1) (tKd y.2.2 S.2.1) (rM W S.2.1 (tPos y.2.2 D S.2.1) (tKd y.2.2 S.2.1) (tRun W D y.2.2 ln pt a b S.2.1))) (by decide) sf_290 rfl rfl (Nat.le_of_ble_eq_true rfl) (by decide) (fun I5 hI5 => ?_)
    have hi5 := (hI.st (cur := cur) (ld := (tLd y.2.2 S.2.1)) (t := (tRun W D y.2.2 ln pt a b S.2.1)) (pos := (tPos y.2.2 D S.2.1)) (kd := (tKd y.2.2 S.2.1)) ⟨hBB.1, by omega⟩).le (kr1 := k0 + 1) (kp1 := k0 + 1) (by omega) (Int.le_refl _)
    have hcs := sSt_c W cur (tPos y.2.2 D S.2.1) (tKd y.2.2 S.2.1) (tLd y.2.2 S.2.1) (tRun W D y.2.2 ln pt a b S.2.1) S
    have hF5 : (sSt W cur (tPos y.2.2 D S.2.1) (tKd y.2.2 S.2.1) (tLd y.2.2 S.2.1) (tRun W D y.2.2 ln pt a b S.2.1) S).2.2.2.2 cur 0 = S.1 := by
      unfold sSt
      rw [sBeg_F0]
      split <;> rfl
    have hG5 : MG I5 W v (sSt W cur (tPos y.2.2 D S.2.1) (tKd y.2.2 S.2.1) (tLd y.2.2 S.2.1) (tRun W D y.2.2 ln pt a b S.2.1) S) (cur + 1) := by
      rw [hI5]
      exact MG.beg hI4.1 hc81.1
    have hk5 : MK I5 I := fun x j p q => by
      rw [hI5, mbI_n (by omega)]
      exact hI4.2 x j p q
    generalize hS5 : sSt W cur (tPos y.2.2 D S.2.1) (tKd y.2.2 S.2.1) (tLd y.2.2 S.2.1) (tRun W D y.2.2 ln pt a b S.2.1) S = S5 at hi5 hcs hG5 hF5
    refine r_aload_n dX8_laysField_309 rfl ?_
    refine r_iload dX8_laysField_310 rfl ?_
    refine r_iload dX8_laysField_312 rfl ?_
    refine q_callVW lk_X8_150 dX8_laysField_314 (m_flows I5 R hRO (hC.kept hk5) hWr hvl hok hH cur ((hk5 _ _ (by omega) (by omega)).trans hcur) hc81 (by omega) hG5 N E a (tRun W D y.2.2 ln pt a b S.2.1).1 hFr (by omega) hi5 (by omega) (fun q => ⟨by have := hNa.1 (by omega); omega, by have := hrn.2.2.1 q; omega⟩) (by rw [hF5]; omega)) (by decide) sf_290 rfl rfl (Nat.le_of_ble_eq_true rfl) (by decide) (fun I6 hI6 => ?_)
    have hk6 : MK I6 I := hI6.2.trans hk5
    have hi6 := Inv.fl (cur := cur) hH hFr.2.2.2 ((tRun W D y.2.2 ln pt a b S.2.1).1 - a).toNat a S5 (k0 + 1) (by omega) (Int.le_refl _) hi5 (by omega) (fun q => ⟨by have := hNa.1 (by omega); omega, fun q => by omega, fun _ => by have := hrn.2.2.1 (by omega); omega⟩)
    have hF6 : (sFl W y.2.1 cur st ln a ((tRun W D y.2.2 ln pt a b S.2.1).1 - a).toNat a S5).2.2.2.2 cur 0 = S.1 := (sFl_F0 _ _ _).trans hF5
    have hgE : Gp st v.2.2 to b E (tRun W D y.2.2 ln pt a b S.2.1).1 := by
      by_cases q : a < (tRun W D y.2.2 ln pt a b S.2.1).1
      · have h1 := (hWk ((tRun W D y.2.2 ln pt a b S.2.1).1 - 1) (by omega) (by omega)).2.2.2
        rw [show (tRun W D y.2.2 ln pt a b S.2.1).1 - 1 + 1 = (tRun W D y.2.2 ln pt a b S.2.1).1 by omega] at h1
        rw [hEa.2 q]
        exact h1
      · have q2 : (tRun W D y.2.2 ln pt a b S.2.1).1 = a := by omega
        rw [hEa.1 q2, q2, hNa.2 (by omega)]
        exact ⟨fun q => by omega, fun _ => ⟨Int.le_refl _, fun x x1 x2 => by omega⟩⟩
    refine r_aload_n dX8_laysField_317 rfl ?_
    refine r_iload dX8_laysField_318 rfl ?_
    refine r_iload_n dX8_laysField_320 rfl ?_
    refine q_callVF lk_X8_131 dX8_laysField_321 (m_wordFrom I6 R hRO (hC.kept hk6) hWr hvl E to b (tRun W D y.2.2 ln pt a b S.2.1).1 hgE hrn.1.2 (by omega) hto (fun q => hne (tRun W D y.2.2 ln pt a b S.2.1).1 (by omega) q) hok) (by decide) sf_290 rfl rfl (Nat.le_of_ble_eq_true rfl) (by decide) ?_
    have hnb : 0 ≤ nxW st to b (tRun W D y.2.2 ln pt a b S.2.1).1 ∧ nxW st to b (tRun W D y.2.2 ln pt a b S.2.1).1 ≤ 80 := by
      unfold nxW
      by_cases h : (tRun W D y.2.2 ln pt a b S.2.1).1 < b
      · rw [if_pos h]
        have := (hWk (tRun W D y.2.2 ln pt a b S.2.1).1 (by omega) h).1
        omega
      · rw [if_neg h]
        omega
    refine r_istore dX8_laysField_324 (by decide) ?_
    dsimp only [lset]
    refine r_iload dX8_laysField_326 rfl ?_
    refine r_iload_n dX8_laysField_328 rfl ?_
    refine r_icmpge (tgt := 343) dX8_laysField_329 (by decide) (by omega) (by omega) (fun h329 => ?_) (fun h329 => ?_)
    · have hrb : ¬ (tRun W D y.2.2 ln pt a b S.2.1).1 < b := by
        unfold nxW at h329
        intro h
        rw [if_pos h] at h329
        have := hne (tRun W D y.2.2 ln pt a b S.2.1).1 (by omega) h
        omega
      refine q_vretW dX8_laysField_343 rfl ?_
      first
        | (have e : (sTab W D y.2.1 y.2.2 st ln pt cur a b S) = sFl W y.2.1 cur st ln (tRun W D y.2.2 ln pt a b S.2.1).1 (b - (tRun W D y.2.2 ln pt a b S.2.1).1).toNat (tRun W D y.2.2 ln pt a b S.2.1).1 (sLine y.2.1 (sFl W y.2.1 cur st ln a ((tRun W D y.2.2 ln pt a b S.2.1).1 - a).toNat a S5)) := by
             rw [← hS5]
             unfold sTab
             rw [if_neg hno, if_pos (by omega)]
           rw [e]
           exact ⟨hI8.1, hI8.2.trans hk7⟩)
        | (have e : (sTab W D y.2.1 y.2.2 st ln pt cur a b S) = sFl W y.2.1 cur st ln a ((tRun W D y.2.2 ln pt a b S.2.1).1 - a).toNat a S5 := by
             rw [← hS5]
             unfold sTab
             rw [if_neg hno, if_neg (by omega)]
           rw [e]
           exact ⟨hI6.1, hk6⟩)
    · have hrb : (tRun W D y.2.2 ln pt a b S.2.1).1 < b := by
        unfold nxW at h329
        by_cases h : (tRun W D y.2.2 ln pt a b S.2.1).1 < b
        · exact h
        · rw [if_neg h] at h329
          omega
      have hnx : nxW st to b (tRun W D y.2.2 ln pt a b S.2.1).1 = st (tRun W D y.2.2 ln pt a b S.2.1).1 := if_pos hrb
      rw [hnx]
      have hra : a < (tRun W D y.2.2 ln pt a b S.2.1).1 := by omega
      have hsep := (hWk ((tRun W D y.2.2 ln pt a b S.2.1).1 - 1) (by omega) (by omega)).2.2.1 (by omega)
      rw [show (tRun W D y.2.2 ln pt a b S.2.1).1 - 1 + 1 = (tRun W D y.2.2 ln pt a b S.2.1).1 by omega, ← hEa.2 hra] at hsep
      have hwr := (hWk (tRun W D y.2.2 ln pt a b S.2.1).1 (by omega) hrb).1
      have hi6r := hi6.1
      refine r_aload_n dX8_laysField_332 rfl ?_
      refine q_callVW lk_X8_137 dX8_laysField_333 (m_newLine I6 R hRO (hC.kept hk6) hWr hvl hI6.1 hi6 (by omega)) (by decide) sf_290 rfl rfl (Nat.le_of_ble_eq_true rfl) (by decide) (fun I7 hI7 => ?_)
      have hk7 : MK I7 I := hI7.2.trans hk6
      have hi7 := hi6.line (H := y.2.1) ⟨hH.1, by omega⟩
      refine r_aload_n dX8_laysField_336 rfl ?_
      refine r_iload dX8_laysField_337 rfl ?_
      refine r_iload_n dX8_laysField_339 rfl ?_
      refine q_callVW lk_X8_150 dX8_laysField_340 (m_flows I7 R hRO (hC.kept hk7) hWr hvl hok hH cur ((hk7 _ _ (by omega) (by omega)).trans hcur) hc81 (by omega) hI7.1 (st (tRun W D y.2.2 ln pt a b S.2.1).1) to (tRun W D y.2.2 ln pt a b S.2.1).1 b ⟨hrn.1.2, by omega, ⟨fun _ => ⟨Int.le_refl _, fun x x1 x2 => by omega⟩, fun q => by omega⟩, fun w w1 w2 => hWk w (by omega) w2⟩ hto (hi7.le (Int.le_refl _) (by omega)) (by omega) (fun q => ⟨by omega, hH.2⟩) (by show 0 ≤ (sFl W y.2.1 cur st ln a ((tRun W D y.2.2 ln pt a b S.2.1).1 - a).toNat a S5).2.2.2.2 cur 0 ∧ (sFl W y.2.1 cur st ln a ((tRun W D y.2.2 ln pt a b S.2.1).1 - a).toNat a S5).2.2.2.2 cur 0 ≤ 80; rw [hF6]; omega)) (by decide) sf_290 rfl rfl (Nat.le_of_ble_eq_true rfl) (by decide) (fun I8 hI8 => ?_)
      refine q_vretW dX8_laysField_343 rfl ?_
      first
        | (have e : (sTab W D y.2.1 y.2.2 st ln pt cur a b S) = sFl W y.2.1 cur st ln (tRun W D y.2.2 ln pt a b S.2.1).1 (b - (tRun W D y.2.2 ln pt a b S.2.1).1).toNat (tRun W D y.2.2 ln pt a b S.2.1).1 (sLine y.2.1 (sFl W y.2.1 cur st ln a ((tRun W D y.2.2 ln pt a b S.2.1).1 - a).toNat a S5)) := by
             rw [← hS5]
             unfold sTab
             rw [if_neg hno, if_pos (by omega)]
           rw [e]
           exact ⟨hI8.1, hI8.2.trans hk7⟩)
        | (have e : (sTab W D y.2.1 y.2.2 st ln pt cur a b S) = sFl W y.2.1 cur st ln a ((tRun W D y.2.2 ln pt a b S.2.1).1 - a).toNat a S5 := by
             rw [← hS5]
             unfold sTab
             rw [if_neg hno, if_neg (by omega)]
           rw [e]
           exact ⟨hI6.1, hk6⟩)
  have h271 : ∀ (o : Int), ((o = -9 ∧ bhG y.2.2 S.2.1 80 = -9) ∨ (0 ≤ o ∧ o ≤ 7 ∧ bhG y.2.2 S.2.1 80 ≠ -9 ∧ I 291 (3 + 27 * s + (3 + 3 * o)) = bhG y.2.2 S.2.1 80 ∧ I 291 (3 + 27 * s + (3 + 3 * o + 1)) = ((y.2.2 (bhG y.2.2 S.2.1 80)) - 1) / 4 ∧ I 291 (3 + 27 * s + (3 + 3 * o + 2)) = ((y.2.2 (bhG y.2.2 S.2.1 80)) - 1) % 4)) → ¬ (W < (tPos y.2.2 D S.2.1) ∨ (a < b ∧ (tRun W D y.2.2 ln pt a b S.2.1).1 = a)) → WW cX8_laysField RX8 12 none false 6 0 0 (PW R (fun I1 => MG I1 W v (sTab W D y.2.1 y.2.2 st ln pt cur a b S) (cur + 1) ∧ MK I1 I)) 0 0 271 [some (.inr (some 290)), some (.inl fr), some (.inl to), some (.inl o), some (.inl (tPos y.2.2 D S.2.1)), some (.inl (tKd y.2.2 S.2.1)), some (.inl N), some (.inl E), some (.inl (tRun W D y.2.2 ln pt a b S.2.1).2.1), some (.inl ((tPos y.2.2 D S.2.1) - rAh (tKd y.2.2 S.2.1) (tRun W D y.2.2 ln pt a b S.2.1))), some (.inl (rM W S.2.1 (tPos y.2.2 D S.2.1) (tKd y.2.2 S.2.1) (tRun W D y.2.2 ln pt a b S.2.1))), none] [.inl (rB W S.2.1 (tPos y.2.2 D S.2.1) (tKd y.2.2 S.2.1) (tRun W D y.2.2 ln pt a b S.2.1))] (298, ShF, I, R) := by
    intro o ho hno
    refine r_istore dX8_laysField_271 (by decide) ?_
    dsimp only [lset]
    refine r_aload_n dX8_laysField_273 rfl ?_
    refine r_iload dX8_laysField_274 rfl ?_
    refine r_iload_n dX8_laysField_276 rfl ?_
    refine r_bipush dX8_laysField_277 (by decide) ?_
    refine r_icmpne (tgt := 286) dX8_laysField_279 (by decide) (by omega) (by omega) (fun h279 => ?_) (fun h279 => ?_)
    · refine r_aload_n dX8_laysField_286 rfl ?_
      refine r_aload_n dX8_laysField_287 rfl ?_
      refine q_getI fl_X8_119 dX8_laysField_288 sf_290 ?_
      rw [hs15]
      refine r_iload_n dX8_laysField_291 rfl ?_
      refine r_iconst dX8_laysField_292 ?_
      refine q_callVF lk_X8_54 dX8_laysField_293 (m_stopOf I R hRO s o 2 (by omega)) (by decide) sf_290 rfl rfl (Nat.le_of_ble_eq_true rfl) (by decide) ?_
      have hv : I 291 (3 + 27 * s + (3 + 3 * o + 2)) = (tLd y.2.2 S.2.1) := by
        have hq : (tLd y.2.2 S.2.1) = (y.2.2 (bhG y.2.2 S.2.1 80) - 1) % 4 := if_neg (by omega)
        rw [hq]
        omega
      rw [hv]
      first
        | (have hv : (tLd y.2.2 S.2.1) = 0 := if_pos (by omega)
           have h := h296 o ho hno
           rw [hv] at h
           exact h)
        | exact h296 o ho hno
    · refine r_iconst dX8_laysField_282 ?_
      refine r_goto (tgt := 296) dX8_laysField_283 (by decide) ?_
      first
        | (have hv : (tLd y.2.2 S.2.1) = 0 := if_pos (by omega)
           have h := h296 o ho hno
           rw [hv] at h
           exact h)
        | exact h296 o ho hno
  have h238 : ∀ (o : Int), ((o = -9 ∧ bhG y.2.2 S.2.1 80 = -9) ∨ (0 ≤ o ∧ o ≤ 7 ∧ bhG y.2.2 S.2.1 80 ≠ -9 ∧ I 291 (3 + 27 * s + (3 + 3 * o)) = bhG y.2.2 S.2.1 80 ∧ I 291 (3 + 27 * s + (3 + 3 * o + 1)) = ((y.2.2 (bhG y.2.2 S.2.1 80)) - 1) / 4 ∧ I 291 (3 + 27 * s + (3 + 3 * o + 2)) = ((y.2.2 (bhG y.2.2 S.2.1 80)) - 1) % 4)) → ¬ (W < (tPos y.2.2 D S.2.1) ∨ (a < b ∧ (tRun W D y.2.2 ln pt a b S.2.1).1 = a)) → WW cX8_laysField RX8 12 none false 6 0 0 (PW R (fun I1 => MG I1 W v (sTab W D y.2.1 y.2.2 st ln pt cur a b S) (cur + 1) ∧ MK I1 I)) 0 0 238 [some (.inr (some 290)), some (.inl fr), some (.inl to), some (.inl o), some (.inl (tPos y.2.2 D S.2.1)), some (.inl (tKd y.2.2 S.2.1)), some (.inl N), some (.inl E), some (.inl (tRun W D y.2.2 ln pt a b S.2.1).2.1), some (.inl ((tPos y.2.2 D S.2.1) - rAh (tKd y.2.2 S.2.1) (tRun W D y.2.2 ln pt a b S.2.1))), none, none] [.inl (rM W S.2.1 (tPos y.2.2 D S.2.1) (tKd y.2.2 S.2.1) (tRun W D y.2.2 ln pt a b S.2.1))] (298, ShF, I, R) := by
    intro o ho hno
    have hcase : ((rM W S.2.1 (tPos y.2.2 D S.2.1) (tKd y.2.2 S.2.1) (tRun W D y.2.2 ln pt a b S.2.1)) = 1 ∧ (rB W S.2.1 (tPos y.2.2 D S.2.1) (tKd y.2.2 S.2.1) (tRun W D y.2.2 ln pt a b S.2.1)) = S.2.1) ∨ ((rM W S.2.1 (tPos y.2.2 D S.2.1) (tKd y.2.2 S.2.1) (tRun W D y.2.2 ln pt a b S.2.1)) = 2 ∧ (rB W S.2.1 (tPos y.2.2 D S.2.1) (tKd y.2.2 S.2.1) (tRun W D y.2.2 ln pt a b S.2.1)) = W - (tRun W D y.2.2 ln pt a b S.2.1).2.1) ∨ ((rM W S.2.1 (tPos y.2.2 D S.2.1) (tKd y.2.2 S.2.1) (tRun W D y.2.2 ln pt a b S.2.1)) = 0 ∧ (rB W S.2.1 (tPos y.2.2 D S.2.1) (tKd y.2.2 S.2.1) (tRun W D y.2.2 ln pt a b S.2.1)) = (tPos y.2.2 D S.2.1) - rAh (tKd y.2.2 S.2.1) (tRun W D y.2.2 ln pt a b S.2.1)) := by
      unfold rM rB
      split
      · exact Or.inl ⟨rfl, rfl⟩
      · split
        · exact Or.inr (Or.inl ⟨rfl, rfl⟩)
        · exact Or.inr (Or.inr ⟨rfl, rfl⟩)
    refine r_istore dX8_laysField_238 (by decide) ?_
    dsimp only [lset]
    refine r_iload dX8_laysField_240 rfl ?_
    refine r_iconst dX8_laysField_242 ?_
    refine r_icmpne (tgt := 253) dX8_laysField_243 (by decide) (by omega) (by omega) (fun h243 => ?_) (fun h243 => ?_)
    · refine r_iload dX8_laysField_253 rfl ?_
      refine r_iconst dX8_laysField_255 ?_
      refine r_icmpne (tgt := 269) dX8_laysField_256 (by decide) (by omega) (by omega) (fun h256 => ?_) (fun h256 => ?_)
      · refine r_iload dX8_laysField_269 rfl ?_
        have h := h271 o ho hno
        first
          | (rw [show (rB W S.2.1 (tPos y.2.2 D S.2.1) (tKd y.2.2 S.2.1) (tRun W D y.2.2 ln pt a b S.2.1)) = S.2.1 by omega] at h; exact h)
          | (rw [show (rB W S.2.1 (tPos y.2.2 D S.2.1) (tKd y.2.2 S.2.1) (tRun W D y.2.2 ln pt a b S.2.1)) = W - (tRun W D y.2.2 ln pt a b S.2.1).2.1 by omega] at h; exact h)
          | (rw [show (rB W S.2.1 (tPos y.2.2 D S.2.1) (tKd y.2.2 S.2.1) (tRun W D y.2.2 ln pt a b S.2.1)) = (tPos y.2.2 D S.2.1) - rAh (tKd y.2.2 S.2.1) (tRun W D y.2.2 ln pt a b S.2.1) by omega] at h; exact h)
      · refine r_aload_n dX8_laysField_259 rfl ?_
        refine q_getI fl_X8_110 dX8_laysField_260 sf_290 ?_
        rw [hw14]
        refine r_iload dX8_laysField_263 rfl ?_
        refine r_isub dX8_laysField_265 ?_
        refine r_goto (tgt := 271) dX8_laysField_266 (by decide) ?_
        have h := h271 o ho hno
        first
          | (rw [show (rB W S.2.1 (tPos y.2.2 D S.2.1) (tKd y.2.2 S.2.1) (tRun W D y.2.2 ln pt a b S.2.1)) = S.2.1 by omega] at h; exact h)
          | (rw [show (rB W S.2.1 (tPos y.2.2 D S.2.1) (tKd y.2.2 S.2.1) (tRun W D y.2.2 ln pt a b S.2.1)) = W - (tRun W D y.2.2 ln pt a b S.2.1).2.1 by omega] at h; exact h)
          | (rw [show (rB W S.2.1 (tPos y.2.2 D S.2.1) (tKd y.2.2 S.2.1) (tRun W D y.2.2 ln pt a b S.2.1)) = (tPos y.2.2 D S.2.1) - rAh (tKd y.2.2 S.2.1) (tRun W D y.2.2 ln pt a b S.2.1) by omega] at h; exact h)
    · refine r_aload_n dX8_laysField_246 rfl ?_
      refine q_getI fl_X8_122 dX8_laysField_247 sf_290 ?_
      rw [hc13]
      refine r_goto (tgt := 271) dX8_laysField_250 (by decide) ?_
      have h := h271 o ho hno
      first
        | (rw [show (rB W S.2.1 (tPos y.2.2 D S.2.1) (tKd y.2.2 S.2.1) (tRun W D y.2.2 ln pt a b S.2.1)) = S.2.1 by omega] at h; exact h)
        | (rw [show (rB W S.2.1 (tPos y.2.2 D S.2.1) (tKd y.2.2 S.2.1) (tRun W D y.2.2 ln pt a b S.2.1)) = W - (tRun W D y.2.2 ln pt a b S.2.1).2.1 by omega] at h; exact h)
        | (rw [show (rB W S.2.1 (tPos y.2.2 D S.2.1) (tKd y.2.2 S.2.1) (tRun W D y.2.2 ln pt a b S.2.1)) = (tPos y.2.2 D S.2.1) - rAh (tKd y.2.2 S.2.1) (tRun W D y.2.2 ln pt a b S.2.1) by omega] at h; exact h)
  have h205 : ∀ (o : Int), ((o = -9 ∧ bhG y.2.2 S.2.1 80 = -9) ∨ (0 ≤ o ∧ o ≤ 7 ∧ bhG y.2.2 S.2.1 80 ≠ -9 ∧ I 291 (3 + 27 * s + (3 + 3 * o)) = bhG y.2.2 S.2.1 80 ∧ I 291 (3 + 27 * s + (3 + 3 * o + 1)) = ((y.2.2 (bhG y.2.2 S.2.1 80)) - 1) / 4 ∧ I 291 (3 + 27 * s + (3 + 3 * o + 2)) = ((y.2.2 (bhG y.2.2 S.2.1 80)) - 1) % 4)) → ¬ (W < (tPos y.2.2 D S.2.1) ∨ (a < b ∧ (tRun W D y.2.2 ln pt a b S.2.1).1 = a)) → WW cX8_laysField RX8 12 none false 6 0 0 (PW R (fun I1 => MG I1 W v (sTab W D y.2.1 y.2.2 st ln pt cur a b S) (cur + 1) ∧ MK I1 I)) 0 0 205 [some (.inr (some 290)), some (.inl fr), some (.inl to), some (.inl o), some (.inl (tPos y.2.2 D S.2.1)), some (.inl (tKd y.2.2 S.2.1)), some (.inl N), some (.inl E), some (.inl (tRun W D y.2.2 ln pt a b S.2.1).2.1), none, none, none] [.inl (rAh (tKd y.2.2 S.2.1) (tRun W D y.2.2 ln pt a b S.2.1)), .inl (tPos y.2.2 D S.2.1)] (298, ShF, I, R) := by
    intro o ho hno
    have hah : 0 ≤ rAh (tKd y.2.2 S.2.1) (tRun W D y.2.2 ln pt a b S.2.1) ∧ rAh (tKd y.2.2 S.2.1) (tRun W D y.2.2 ln pt a b S.2.1) ≤ 100 := by
      have h1 := hrn.2.2.2
      have h2 := hrn.2.1
      have h3 := hrn.2.2.1
      have h4 : (tRun W D y.2.2 ln pt a b S.2.1).2.1 ≤ 100 := by
        by_cases q : (tRun W D y.2.2 ln pt a b S.2.1).1 = a
        · have := h2 q; omega
        · have := h3 (by omega)
          split at this <;> omega
      unfold rAh
      split
      · omega
      · split
        · omega
        · split <;> omega
    have hrl4 : 0 ≤ (tRun W D y.2.2 ln pt a b S.2.1).2.1 ∧ (tRun W D y.2.2 ln pt a b S.2.1).2.1 ≤ 100 := by
      have h1 := hrn.2.2.2
      have h2 := hrn.2.1
      have h3 := hrn.2.2.1
      by_cases q : (tRun W D y.2.2 ln pt a b S.2.1).1 = a
      · have := h2 q; omega
      · have := h3 (by omega)
        split at this <;> omega
    refine r_isub dX8_laysField_205 ?_
    refine r_istore dX8_laysField_206 (by decide) ?_
    dsimp only [lset]
    refine r_iload dX8_laysField_208 rfl ?_
    refine r_aload_n dX8_laysField_210 rfl ?_
    refine q_getI fl_X8_122 dX8_laysField_211 sf_290 ?_
    rw [hc13]
    refine r_icmpge (tgt := 221) dX8_laysField_214 (by decide) (by omega) (by omega) (fun h214 => ?_) (fun h214 => ?_)
    · refine r_iload dX8_laysField_221 rfl ?_
      refine r_iload dX8_laysField_223 rfl ?_
      refine r_iadd dX8_laysField_225 ?_
      refine r_aload_n dX8_laysField_226 rfl ?_
      refine q_getI fl_X8_110 dX8_laysField_227 sf_290 ?_
      rw [hw14]
      refine r_icmple (tgt := 237) dX8_laysField_230 (by decide) (by omega) (by omega) (fun h230 => ?_) (fun h230 => ?_)
      · refine r_iconst dX8_laysField_237 ?_
        have h := h238 o ho hno
        first
          | (rw [show (rM W S.2.1 (tPos y.2.2 D S.2.1) (tKd y.2.2 S.2.1) (tRun W D y.2.2 ln pt a b S.2.1)) = 1 from if_pos (by omega)] at h; exact h)
          | (rw [show (rM W S.2.1 (tPos y.2.2 D S.2.1) (tKd y.2.2 S.2.1) (tRun W D y.2.2 ln pt a b S.2.1)) = 2 from (if_neg (by omega)).trans (if_pos (by omega))] at h; exact h)
          | (rw [show (rM W S.2.1 (tPos y.2.2 D S.2.1) (tKd y.2.2 S.2.1) (tRun W D y.2.2 ln pt a b S.2.1)) = 0 from (if_neg (by omega)).trans (if_neg (by omega))] at h; exact h)
      · refine r_iconst dX8_laysField_233 ?_
        refine r_goto (tgt := 238) dX8_laysField_234 (by decide) ?_
        have h := h238 o ho hno
        first
          | (rw [show (rM W S.2.1 (tPos y.2.2 D S.2.1) (tKd y.2.2 S.2.1) (tRun W D y.2.2 ln pt a b S.2.1)) = 1 from if_pos (by omega)] at h; exact h)
          | (rw [show (rM W S.2.1 (tPos y.2.2 D S.2.1) (tKd y.2.2 S.2.1) (tRun W D y.2.2 ln pt a b S.2.1)) = 2 from (if_neg (by omega)).trans (if_pos (by omega))] at h; exact h)
          | (rw [show (rM W S.2.1 (tPos y.2.2 D S.2.1) (tKd y.2.2 S.2.1) (tRun W D y.2.2 ln pt a b S.2.1)) = 0 from (if_neg (by omega)).trans (if_neg (by omega))] at h; exact h)
    · refine r_iconst dX8_laysField_217 ?_
      refine r_goto (tgt := 238) dX8_laysField_218 (by decide) ?_
      have h := h238 o ho hno
      first
        | (rw [show (rM W S.2.1 (tPos y.2.2 D S.2.1) (tKd y.2.2 S.2.1) (tRun W D y.2.2 ln pt a b S.2.1)) = 1 from if_pos (by omega)] at h; exact h)
        | (rw [show (rM W S.2.1 (tPos y.2.2 D S.2.1) (tKd y.2.2 S.2.1) (tRun W D y.2.2 ln pt a b S.2.1)) = 2 from (if_neg (by omega)).trans (if_pos (by omega))] at h; exact h)
        | (rw [show (rM W S.2.1 (tPos y.2.2 D S.2.1) (tKd y.2.2 S.2.1) (tRun W D y.2.2 ln pt a b S.2.1)) = 0 from (if_neg (by omega)).trans (if_neg (by omega))] at h; exact h)
  have h125 : ∀ (o : Int), ((o = -9 ∧ bhG y.2.2 S.2.1 80 = -9) ∨ (0 ≤ o ∧ o ≤ 7 ∧ bhG y.2.2 S.2.1 80 ≠ -9 ∧ I 291 (3 + 27 * s + (3 + 3 * o)) = bhG y.2.2 S.2.1 80 ∧ I 291 (3 + 27 * s + (3 + 3 * o + 1)) = ((y.2.2 (bhG y.2.2 S.2.1 80)) - 1) / 4 ∧ I 291 (3 + 27 * s + (3 + 3 * o + 2)) = ((y.2.2 (bhG y.2.2 S.2.1 80)) - 1) % 4)) → ¬ W < (tPos y.2.2 D S.2.1) → WW cX8_laysField RX8 12 none false 6 0 0 (PW R (fun I1 => MG I1 W v (sTab W D y.2.1 y.2.2 st ln pt cur a b S) (cur + 1) ∧ MK I1 I)) 0 0 125 [some (.inr (some 290)), some (.inl fr), some (.inl to), some (.inl o), some (.inl (tPos y.2.2 D S.2.1)), some (.inl (tKd y.2.2 S.2.1)), some (.inl N), none, none, none, none, none] [.inl (W - (if (tKd y.2.2 S.2.1) = 0 then (tPos y.2.2 D S.2.1) else S.2.1)), .inl to, .inl fr, .inr (some 290)] (298, ShF, I, R) := by
    intro o ho hnp
    have hah : 0 ≤ rAh (tKd y.2.2 S.2.1) (tRun W D y.2.2 ln pt a b S.2.1) ∧ rAh (tKd y.2.2 S.2.1) (tRun W D y.2.2 ln pt a b S.2.1) ≤ 100 := by
      have h1 := hrn.2.2.2
      have h2 := hrn.2.1
      have h3 := hrn.2.2.1
      have h4 : (tRun W D y.2.2 ln pt a b S.2.1).2.1 ≤ 100 := by
        by_cases q : (tRun W D y.2.2 ln pt a b S.2.1).1 = a
        · have := h2 q; omega
        · have := h3 (by omega)
          split at this <;> omega
      unfold rAh
      split
      · omega
      · split
        · omega
        · split <;> omega
    have hrl4 : 0 ≤ (tRun W D y.2.2 ln pt a b S.2.1).2.1 ∧ (tRun W D y.2.2 ln pt a b S.2.1).2.1 ≤ 100 := by
      have h1 := hrn.2.2.2
      have h2 := hrn.2.1
      have h3 := hrn.2.2.1
      by_cases q : (tRun W D y.2.2 ln pt a b S.2.1).1 = a
      · have := h2 q; omega
      · have := h3 (by omega)
        split at this <;> omega
    refine q_callVF lk_X8_165 dX8_laysField_125 (m_endOfRun I R hRO hC hWr hvl hok (pt := pt) fr to a b (W - (if (tKd y.2.2 S.2.1) = 0 then (tPos y.2.2 D S.2.1) else S.2.1)) hF hto (by split <;> omega) (by omega)) (by decide) sf_290 rfl rfl (Nat.le_of_ble_eq_true rfl) (by decide) ?_
    rw [er, ← hE]
    refine r_istore dX8_laysField_128 (by decide) ?_
    dsimp only [lset]
    refine r_iload dX8_laysField_130 rfl ?_
    refine r_iload_n dX8_laysField_132 rfl ?_
    refine r_icmpge (tgt := 150) dX8_laysField_133 (by decide) (by omega) (by omega) (fun h133 => ?_) (fun h133 => ?_)
    · have hno : ¬ (W < (tPos y.2.2 D S.2.1) ∨ (a < b ∧ (tRun W D y.2.2 ln pt a b S.2.1).1 = a)) := by
        intro h
        rcases h with h | h
        · omega
        · have h1 := hNa.1 h.1
          have h2 := hEa.1 h.2
          have h3 := (hne a (Int.le_refl _) h.1).1
          omega
      refine r_aload_n dX8_laysField_150 rfl ?_
      refine r_iload dX8_laysField_151 rfl ?_
      refine r_iload dX8_laysField_153 rfl ?_
      refine r_iconst dX8_laysField_155 ?_
      refine q_callVF lk_X8_168 dX8_laysField_156 (m_lengthOf I R hRO hC hWr hvl hok (st := st) (ln := ln) (pt := pt) N E a (tRun W D y.2.2 ln pt a b S.2.1).1 0 (Or.inl rfl) hFpr (by omega) (by omega)) (by decide) sf_290 rfl rfl (Nat.le_of_ble_eq_true rfl) (by decide) ?_
      rw [if_pos rfl, hqq, ← hq2]
      refine r_istore dX8_laysField_159 (by decide) ?_
      dsimp only [lset]
      refine r_iload dX8_laysField_161 rfl ?_
      refine r_iload dX8_laysField_163 rfl ?_
      refine r_ifne (tgt := 172) dX8_laysField_165 (by decide) (by omega) (fun h165 => ?_) (fun h165 => ?_)
      · refine r_iload dX8_laysField_172 rfl ?_
        refine r_iconst dX8_laysField_174 ?_
        refine r_icmpne (tgt := 183) dX8_laysField_175 (by decide) (by omega) (by omega) (fun h175 => ?_) (fun h175 => ?_)
        · refine r_iload dX8_laysField_183 rfl ?_
          refine r_iconst dX8_laysField_185 ?_
          refine r_icmpne (tgt := 196) dX8_laysField_186 (by decide) (by omega) (by omega) (fun h186 => ?_) (fun h186 => ?_)
          · refine r_aload_n dX8_laysField_196 rfl ?_
            refine r_iload dX8_laysField_197 rfl ?_
            refine r_iload dX8_laysField_199 rfl ?_
            refine r_iconst dX8_laysField_201 ?_
            refine q_callVF lk_X8_168 dX8_laysField_202 (m_lengthOf I R hRO hC hWr hvl hok (st := st) (ln := ln) (pt := pt) N E a (tRun W D y.2.2 ln pt a b S.2.1).1 1 (Or.inr rfl) hFpr (by omega) (by omega)) (by decide) sf_290 rfl rfl (Nat.le_of_ble_eq_true rfl) (by decide) ?_
            rw [if_neg (show ¬ (1 : Int) = 0 by decide), hqq, ← hq3]
            have h := h205 o ho hno
            first
              | (rw [show rAh (tKd y.2.2 S.2.1) (tRun W D y.2.2 ln pt a b S.2.1) = 0 by unfold rAh; rw [if_neg (by omega), if_neg (by omega), if_neg (by omega)]] at h; exact h)
              | (rw [show rAh (tKd y.2.2 S.2.1) (tRun W D y.2.2 ln pt a b S.2.1) = (tRun W D y.2.2 ln pt a b S.2.1).2.1 from if_pos (by omega)] at h; exact h)
              | (rw [show rAh (tKd y.2.2 S.2.1) (tRun W D y.2.2 ln pt a b S.2.1) = (tRun W D y.2.2 ln pt a b S.2.1).2.1 / 2 from (if_neg (by omega)).trans (if_pos (by omega))] at h; exact h)
              | (rw [show rAh (tKd y.2.2 S.2.1) (tRun W D y.2.2 ln pt a b S.2.1) = (tRun W D y.2.2 ln pt a b S.2.1).2.2 from (if_neg (by omega)).trans ((if_neg (by omega)).trans (if_pos (by omega)))] at h; exact h)
          · refine r_iload dX8_laysField_189 rfl ?_
            refine r_iconst dX8_laysField_191 ?_
            refine r_idiv dX8_laysField_192 (by omega) (by omega) ?_
            refine r_goto (tgt := 205) dX8_laysField_193 (by decide) ?_
            have h := h205 o ho hno
            first
              | (rw [show rAh (tKd y.2.2 S.2.1) (tRun W D y.2.2 ln pt a b S.2.1) = 0 by unfold rAh; rw [if_neg (by omega), if_neg (by omega), if_neg (by omega)]] at h; exact h)
              | (rw [show rAh (tKd y.2.2 S.2.1) (tRun W D y.2.2 ln pt a b S.2.1) = (tRun W D y.2.2 ln pt a b S.2.1).2.1 from if_pos (by omega)] at h; exact h)
              | (rw [show rAh (tKd y.2.2 S.2.1) (tRun W D y.2.2 ln pt a b S.2.1) = (tRun W D y.2.2 ln pt a b S.2.1).2.1 / 2 from (if_neg (by omega)).trans (if_pos (by omega))] at h; exact h)
              | (rw [show rAh (tKd y.2.2 S.2.1) (tRun W D y.2.2 ln pt a b S.2.1) = (tRun W D y.2.2 ln pt a b S.2.1).2.2 from (if_neg (by omega)).trans ((if_neg (by omega)).trans (if_pos (by omega)))] at h; exact h)
        · refine r_iload dX8_laysField_178 rfl ?_
          refine r_goto (tgt := 205) dX8_laysField_180 (by decide) ?_
          have h := h205 o ho hno
          first
            | (rw [show rAh (tKd y.2.2 S.2.1) (tRun W D y.2.2 ln pt a b S.2.1) = 0 by unfold rAh; rw [if_neg (by omega), if_neg (by omega), if_neg (by omega)]] at h; exact h)
            | (rw [show rAh (tKd y.2.2 S.2.1) (tRun W D y.2.2 ln pt a b S.2.1) = (tRun W D y.2.2 ln pt a b S.2.1).2.1 from if_pos (by omega)] at h; exact h)
            | (rw [show rAh (tKd y.2.2 S.2.1) (tRun W D y.2.2 ln pt a b S.2.1) = (tRun W D y.2.2 ln pt a b S.2.1).2.1 / 2 from (if_neg (by omega)).trans (if_pos (by omega))] at h; exact h)
            | (rw [show rAh (tKd y.2.2 S.2.1) (tRun W D y.2.2 ln pt a b S.2.1) = (tRun W D y.2.2 ln pt a b S.2.1).2.2 from (if_neg (by omega)).trans ((if_neg (by omega)).trans (if_pos (by omega)))] at h; exact h)
      · refine r_iconst dX8_laysField_168 ?_
        refine r_goto (tgt := 205) dX8_laysField_169 (by decide) ?_
        have h := h205 o ho hno
        first
          | (rw [show rAh (tKd y.2.2 S.2.1) (tRun W D y.2.2 ln pt a b S.2.1) = 0 by unfold rAh; rw [if_neg (by omega), if_neg (by omega), if_neg (by omega)]] at h; exact h)
          | (rw [show rAh (tKd y.2.2 S.2.1) (tRun W D y.2.2 ln pt a b S.2.1) = (tRun W D y.2.2 ln pt a b S.2.1).2.1 from if_pos (by omega)] at h; exact h)
          | (rw [show rAh (tKd y.2.2 S.2.1) (tRun W D y.2.2 ln pt a b S.2.1) = (tRun W D y.2.2 ln pt a b S.2.1).2.1 / 2 from (if_neg (by omega)).trans (if_pos (by omega))] at h; exact h)
          | (rw [show rAh (tKd y.2.2 S.2.1) (tRun W D y.2.2 ln pt a b S.2.1) = (tRun W D y.2.2 ln pt a b S.2.1).2.2 from (if_neg (by omega)).trans ((if_neg (by omega)).trans (if_pos (by omega)))] at h; exact h)
    · refine r_iload dX8_laysField_136 rfl ?_
      refine r_iload dX8_laysField_138 rfl ?_
      refine r_icmpne (tgt := 150) dX8_laysField_140 (by decide) (by omega) (by omega) (fun h140 => ?_) (fun h140 => ?_)
      · have hno : ¬ (W < (tPos y.2.2 D S.2.1) ∨ (a < b ∧ (tRun W D y.2.2 ln pt a b S.2.1).1 = a)) := by
          intro h
          rcases h with h | h
          · omega
          · have h1 := hNa.1 h.1
            have h2 := hEa.1 h.2
            have h3 := (hne a (Int.le_refl _) h.1).1
            omega
        refine r_aload_n dX8_laysField_150 rfl ?_
        refine r_iload dX8_laysField_151 rfl ?_
        refine r_iload dX8_laysField_153 rfl ?_
        refine r_iconst dX8_laysField_155 ?_
        refine q_callVF lk_X8_168 dX8_laysField_156 (m_lengthOf I R hRO hC hWr hvl hok (st := st) (ln := ln) (pt := pt) N E a (tRun W D y.2.2 ln pt a b S.2.1).1 0 (Or.inl rfl) hFpr (by omega) (by omega)) (by decide) sf_290 rfl rfl (Nat.le_of_ble_eq_true rfl) (by decide) ?_
        rw [if_pos rfl, hqq, ← hq2]
        refine r_istore dX8_laysField_159 (by decide) ?_
        dsimp only [lset]
        refine r_iload dX8_laysField_161 rfl ?_
        refine r_iload dX8_laysField_163 rfl ?_
        refine r_ifne (tgt := 172) dX8_laysField_165 (by decide) (by omega) (fun h165 => ?_) (fun h165 => ?_)
        · refine r_iload dX8_laysField_172 rfl ?_
          refine r_iconst dX8_laysField_174 ?_
          refine r_icmpne (tgt := 183) dX8_laysField_175 (by decide) (by omega) (by omega) (fun h175 => ?_) (fun h175 => ?_)
          · refine r_iload dX8_laysField_183 rfl ?_
            refine r_iconst dX8_laysField_185 ?_
            refine r_icmpne (tgt := 196) dX8_laysField_186 (by decide) (by omega) (by omega) (fun h186 => ?_) (fun h186 => ?_)
            · refine r_aload_n dX8_laysField_196 rfl ?_
              refine r_iload dX8_laysField_197 rfl ?_
              refine r_iload dX8_laysField_199 rfl ?_
              refine r_iconst dX8_laysField_201 ?_
              refine q_callVF lk_X8_168 dX8_laysField_202 (m_lengthOf I R hRO hC hWr hvl hok (st := st) (ln := ln) (pt := pt) N E a (tRun W D y.2.2 ln pt a b S.2.1).1 1 (Or.inr rfl) hFpr (by omega) (by omega)) (by decide) sf_290 rfl rfl (Nat.le_of_ble_eq_true rfl) (by decide) ?_
              rw [if_neg (show ¬ (1 : Int) = 0 by decide), hqq, ← hq3]
              have h := h205 o ho hno
              first
                | (rw [show rAh (tKd y.2.2 S.2.1) (tRun W D y.2.2 ln pt a b S.2.1) = 0 by unfold rAh; rw [if_neg (by omega), if_neg (by omega), if_neg (by omega)]] at h; exact h)
                | (rw [show rAh (tKd y.2.2 S.2.1) (tRun W D y.2.2 ln pt a b S.2.1) = (tRun W D y.2.2 ln pt a b S.2.1).2.1 from if_pos (by omega)] at h; exact h)
                | (rw [show rAh (tKd y.2.2 S.2.1) (tRun W D y.2.2 ln pt a b S.2.1) = (tRun W D y.2.2 ln pt a b S.2.1).2.1 / 2 from (if_neg (by omega)).trans (if_pos (by omega))] at h; exact h)
                | (rw [show rAh (tKd y.2.2 S.2.1) (tRun W D y.2.2 ln pt a b S.2.1) = (tRun W D y.2.2 ln pt a b S.2.1).2.2 from (if_neg (by omega)).trans ((if_neg (by omega)).trans (if_pos (by omega)))] at h; exact h)
            · refine r_iload dX8_laysField_189 rfl ?_
              refine r_iconst dX8_laysField_191 ?_
              refine r_idiv dX8_laysField_192 (by omega) (by omega) ?_
              refine r_goto (tgt := 205) dX8_laysField_193 (by decide) ?_
              have h := h205 o ho hno
              first
                | (rw [show rAh (tKd y.2.2 S.2.1) (tRun W D y.2.2 ln pt a b S.2.1) = 0 by unfold rAh; rw [if_neg (by omega), if_neg (by omega), if_neg (by omega)]] at h; exact h)
                | (rw [show rAh (tKd y.2.2 S.2.1) (tRun W D y.2.2 ln pt a b S.2.1) = (tRun W D y.2.2 ln pt a b S.2.1).2.1 from if_pos (by omega)] at h; exact h)
                | (rw [show rAh (tKd y.2.2 S.2.1) (tRun W D y.2.2 ln pt a b S.2.1) = (tRun W D y.2.2 ln pt a b S.2.1).2.1 / 2 from (if_neg (by omega)).trans (if_pos (by omega))] at h; exact h)
                | (rw [show rAh (tKd y.2.2 S.2.1) (tRun W D y.2.2 ln pt a b S.2.1) = (tRun W D y.2.2 ln pt a b S.2.1).2.2 from (if_neg (by omega)).trans ((if_neg (by omega)).trans (if_pos (by omega)))] at h; exact h)
          · refine r_iload dX8_laysField_178 rfl ?_
            refine r_goto (tgt := 205) dX8_laysField_180 (by decide) ?_
            have h := h205 o ho hno
            first
              | (rw [show rAh (tKd y.2.2 S.2.1) (tRun W D y.2.2 ln pt a b S.2.1) = 0 by unfold rAh; rw [if_neg (by omega), if_neg (by omega), if_neg (by omega)]] at h; exact h)
              | (rw [show rAh (tKd y.2.2 S.2.1) (tRun W D y.2.2 ln pt a b S.2.1) = (tRun W D y.2.2 ln pt a b S.2.1).2.1 from if_pos (by omega)] at h; exact h)
              | (rw [show rAh (tKd y.2.2 S.2.1) (tRun W D y.2.2 ln pt a b S.2.1) = (tRun W D y.2.2 ln pt a b S.2.1).2.1 / 2 from (if_neg (by omega)).trans (if_pos (by omega))] at h; exact h)
              | (rw [show rAh (tKd y.2.2 S.2.1) (tRun W D y.2.2 ln pt a b S.2.1) = (tRun W D y.2.2 ln pt a b S.2.1).2.2 from (if_neg (by omega)).trans ((if_neg (by omega)).trans (if_pos (by omega)))] at h; exact h)
        · refine r_iconst dX8_laysField_168 ?_
          refine r_goto (tgt := 205) dX8_laysField_169 (by decide) ?_
          have h := h205 o ho hno
          first
            | (rw [show rAh (tKd y.2.2 S.2.1) (tRun W D y.2.2 ln pt a b S.2.1) = 0 by unfold rAh; rw [if_neg (by omega), if_neg (by omega), if_neg (by omega)]] at h; exact h)
            | (rw [show rAh (tKd y.2.2 S.2.1) (tRun W D y.2.2 ln pt a b S.2.1) = (tRun W D y.2.2 ln pt a b S.2.1).2.1 from if_pos (by omega)] at h; exact h)
            | (rw [show rAh (tKd y.2.2 S.2.1) (tRun W D y.2.2 ln pt a b S.2.1) = (tRun W D y.2.2 ln pt a b S.2.1).2.1 / 2 from (if_neg (by omega)).trans (if_pos (by omega))] at h; exact h)
            | (rw [show rAh (tKd y.2.2 S.2.1) (tRun W D y.2.2 ln pt a b S.2.1) = (tRun W D y.2.2 ln pt a b S.2.1).2.2 from (if_neg (by omega)).trans ((if_neg (by omega)).trans (if_pos (by omega)))] at h; exact h)
      · refine r_aload_n dX8_laysField_143 rfl ?_
        refine r_iload_n dX8_laysField_144 rfl ?_
        refine r_iload_n dX8_laysField_145 rfl ?_
        have hra : (tRun W D y.2.2 ln pt a b S.2.1).1 = a := by
          by_cases q : a < (tRun W D y.2.2 ln pt a b S.2.1).1
          · have := hEN q; omega
          · omega
        have hab2 : a < b := by
          by_cases q : a < b
          · exact q
          · have := hNa.2 (by omega); omega
        refine q_callVW lk_X8_162 dX8_laysField_146 (m_flowsAnew I R hRO hC hWr hvl hok hH cur hcur hc81 hG fr to a b hF hto hI hk0) (by decide) sf_290 rfl rfl (Nat.le_of_ble_eq_true rfl) (by decide) (fun I9 hI9 => ?_)
        refine q_vretW dX8_laysField_149 rfl ?_
        have e : (sTab W D y.2.1 y.2.2 st ln pt cur a b S) = sFl W y.2.1 cur st ln a (b - a).toNat a (sBeg cur (sLine y.2.1 S) (-9) (-9) (-9)) := by
          unfold sTab
          rw [if_pos (Or.inr ⟨hab2, hra⟩)]
        rw [e]
        exact hI9
  have h72 : ∀ (o : Int), ((o = -9 ∧ bhG y.2.2 S.2.1 80 = -9) ∨ (0 ≤ o ∧ o ≤ 7 ∧ bhG y.2.2 S.2.1 80 ≠ -9 ∧ I 291 (3 + 27 * s + (3 + 3 * o)) = bhG y.2.2 S.2.1 80 ∧ I 291 (3 + 27 * s + (3 + 3 * o + 1)) = ((y.2.2 (bhG y.2.2 S.2.1 80)) - 1) / 4 ∧ I 291 (3 + 27 * s + (3 + 3 * o + 2)) = ((y.2.2 (bhG y.2.2 S.2.1 80)) - 1) % 4)) → WW cX8_laysField RX8 12 none false 6 0 0 (PW R (fun I1 => MG I1 W v (sTab W D y.2.1 y.2.2 st ln pt cur a b S) (cur + 1) ∧ MK I1 I)) 0 0 72 [some (.inr (some 290)), some (.inl fr), some (.inl to), some (.inl o), some (.inl (tPos y.2.2 D S.2.1)), none, none, none, none, none, none, none] [.inl (tKd y.2.2 S.2.1)] (298, ShF, I, R) := by
    intro o ho 
    refine r_istore dX8_laysField_72 (by decide) ?_
    dsimp only [lset]
    refine r_aload_n dX8_laysField_74 rfl ?_
    refine r_iload_n dX8_laysField_75 rfl ?_
    refine r_iload_n dX8_laysField_76 rfl ?_
    refine q_callVF lk_X8_131 dX8_laysField_77 (m_wordFrom I R hRO hC hWr hvl fr to b a hF.2.2.1 hab hfr0 hto (fun q => hne a (Int.le_refl _) q) hok) (by decide) sf_290 rfl rfl (Nat.le_of_ble_eq_true rfl) (by decide) ?_
    rw [← hN]
    refine r_istore dX8_laysField_80 (by decide) ?_
    dsimp only [lset]
    refine r_iload dX8_laysField_82 rfl ?_
    refine r_aload_n dX8_laysField_84 rfl ?_
    refine q_getI fl_X8_110 dX8_laysField_85 sf_290 ?_
    rw [hw14]
    refine r_icmple (tgt := 98) dX8_laysField_88 (by decide) (by omega) (by omega) (fun h88 => ?_) (fun h88 => ?_)
    · refine r_aload_n dX8_laysField_98 rfl ?_
      refine r_iload_n dX8_laysField_99 rfl ?_
      refine r_iload_n dX8_laysField_100 rfl ?_
      refine r_iload dX8_laysField_101 rfl ?_
      refine r_ifne (tgt := 116) dX8_laysField_103 (by decide) (by omega) (fun h103 => ?_) (fun h103 => ?_)
      · refine r_aload_n dX8_laysField_116 rfl ?_
        refine q_getI fl_X8_110 dX8_laysField_117 sf_290 ?_
        rw [hw14]
        refine r_aload_n dX8_laysField_120 rfl ?_
        refine q_getI fl_X8_122 dX8_laysField_121 sf_290 ?_
        rw [hc13]
        refine r_isub dX8_laysField_124 ?_
        have h := h125 o ho (by omega)
        first
          | (rw [if_pos (show (tKd y.2.2 S.2.1) = 0 by omega)] at h; exact h)
          | (rw [if_neg (show ¬ (tKd y.2.2 S.2.1) = 0 by omega)] at h; exact h)
      · refine r_aload_n dX8_laysField_106 rfl ?_
        refine q_getI fl_X8_110 dX8_laysField_107 sf_290 ?_
        rw [hw14]
        refine r_iload dX8_laysField_110 rfl ?_
        refine r_isub dX8_laysField_112 ?_
        refine r_goto (tgt := 125) dX8_laysField_113 (by decide) ?_
        have h := h125 o ho (by omega)
        first
          | (rw [if_pos (show (tKd y.2.2 S.2.1) = 0 by omega)] at h; exact h)
          | (rw [if_neg (show ¬ (tKd y.2.2 S.2.1) = 0 by omega)] at h; exact h)
    · refine r_aload_n dX8_laysField_91 rfl ?_
      refine r_iload_n dX8_laysField_92 rfl ?_
      refine r_iload_n dX8_laysField_93 rfl ?_
      refine q_callVW lk_X8_162 dX8_laysField_94 (m_flowsAnew I R hRO hC hWr hvl hok hH cur hcur hc81 hG fr to a b hF hto hI hk0) (by decide) sf_290 rfl rfl (Nat.le_of_ble_eq_true rfl) (by decide) (fun I9 hI9 => ?_)
      refine q_vretW dX8_laysField_97 rfl ?_
      have e : (sTab W D y.2.1 y.2.2 st ln pt cur a b S) = sFl W y.2.1 cur st ln a (b - a).toNat a (sBeg cur (sLine y.2.1 S) (-9) (-9) (-9)) := by
        unfold sTab
        rw [if_pos (Or.inl (by omega))]
      rw [e]
      exact hI9
  have h50 : ∀ (o : Int), ((o = -9 ∧ bhG y.2.2 S.2.1 80 = -9) ∨ (0 ≤ o ∧ o ≤ 7 ∧ bhG y.2.2 S.2.1 80 ≠ -9 ∧ I 291 (3 + 27 * s + (3 + 3 * o)) = bhG y.2.2 S.2.1 80 ∧ I 291 (3 + 27 * s + (3 + 3 * o + 1)) = ((y.2.2 (bhG y.2.2 S.2.1 80)) - 1) / 4 ∧ I 291 (3 + 27 * s + (3 + 3 * o + 2)) = ((y.2.2 (bhG y.2.2 S.2.1 80)) - 1) % 4)) → WW cX8_laysField RX8 12 none false 6 0 0 (PW R (fun I1 => MG I1 W v (sTab W D y.2.1 y.2.2 st ln pt cur a b S) (cur + 1) ∧ MK I1 I)) 0 0 50 [some (.inr (some 290)), some (.inl fr), some (.inl to), some (.inl o), none, none, none, none, none, none, none, none] [.inl (tPos y.2.2 D S.2.1)] (298, ShF, I, R) := by
    intro o ho 
    refine r_istore dX8_laysField_50 (by decide) ?_
    dsimp only [lset]
    refine r_iload_n dX8_laysField_52 rfl ?_
    refine r_bipush dX8_laysField_53 (by decide) ?_
    refine r_icmpne (tgt := 62) dX8_laysField_55 (by decide) (by omega) (by omega) (fun h55 => ?_) (fun h55 => ?_)
    · refine r_aload_n dX8_laysField_62 rfl ?_
      refine r_aload_n dX8_laysField_63 rfl ?_
      refine q_getI fl_X8_119 dX8_laysField_64 sf_290 ?_
      rw [hs15]
      refine r_iload_n dX8_laysField_67 rfl ?_
      refine r_iconst dX8_laysField_68 ?_
      refine q_callVF lk_X8_54 dX8_laysField_69 (m_stopOf I R hRO s o 1 (by omega)) (by decide) sf_290 rfl rfl (Nat.le_of_ble_eq_true rfl) (by decide) ?_
      have hv : I 291 (3 + 27 * s + (3 + 3 * o + 1)) = (tKd y.2.2 S.2.1) := by
        have hq : (tKd y.2.2 S.2.1) = (y.2.2 (bhG y.2.2 S.2.1 80) - 1) / 4 := if_neg (by omega)
        rw [hq]
        omega
      rw [hv]
      have h := h72 o ho
      first
        | exact h
        | (rw [show (tKd y.2.2 S.2.1) = 0 from if_pos (by omega)] at h; exact h)
    · refine r_iconst dX8_laysField_58 ?_
      refine r_goto (tgt := 72) dX8_laysField_59 (by decide) ?_
      have h := h72 o ho
      first
        | exact h
        | (rw [show (tKd y.2.2 S.2.1) = 0 from if_pos (by omega)] at h; exact h)
  refine CC_of (own := RX8) (ini := false) (by decide +kernel) rfl (fun h => absurd h (by decide)) (Nat.le_of_ble_eq_true rfl) ?_
  show WW cX8_laysField RX8 12 none false 6 0 0 (PW R (fun I1 => MG I1 W v (sTab W D y.2.1 y.2.2 st ln pt cur a b S) (cur + 1) ∧ MK I1 I)) 0 0 0 [some (.inr (some 290)), some (.inl (fr)), some (.inl (to)), none, none, none, none, none, none, none, none, none] [] (298, ShF, I, R)
  refine r_aload_n dX8_laysField_0 rfl ?_
  refine q_callVF lk_X8_153 dX8_laysField_1 (m_ownStop I R hRO hC hWr hvl hy S.2.1 hc13 (by omega)) (by decide) sf_290 rfl rfl (Nat.le_of_ble_eq_true rfl) (by decide) ?_
  have hoo : True := trivial
  obtain ⟨o, hoe⟩ : ∃ o : Int, o = (if bhG y.2.2 S.2.1 80 = -9 then -9 else cntF y.2.2 (bhG y.2.2 S.2.1 80 - 1).toNat) := ⟨_, rfl⟩
  rw [← hoe]
  have hob := cntF_bd y.2.2 (bhG y.2.2 S.2.1 80 - 1).toNat
  have h8 := hy.2.2.2
  have ho : ((o = -9 ∧ bhG y.2.2 S.2.1 80 = -9) ∨ (0 ≤ o ∧ o ≤ 7 ∧ bhG y.2.2 S.2.1 80 ≠ -9 ∧ I 291 (3 + 27 * s + (3 + 3 * o)) = bhG y.2.2 S.2.1 80 ∧ I 291 (3 + 27 * s + (3 + 3 * o + 1)) = ((y.2.2 (bhG y.2.2 S.2.1 80)) - 1) / 4 ∧ I 291 (3 + 27 * s + (3 + 3 * o + 2)) = ((y.2.2 (bhG y.2.2 S.2.1 80)) - 1) % 4)) := by
    rcases hBR with h | h
    · exact Or.inl ⟨by rw [hoe, if_pos h.1], h.1⟩
    · have hz := h.1.1
      have hst : StpF y.2.2 (bhG y.2.2 S.2.1 80) := ⟨h.1.1, h.1.2.1, h.1.2.2.1⟩
      have hlt := cnt_lt hst
      have ho2 : o = cntF y.2.2 (bhG y.2.2 S.2.1 80 - 1).toNat := by rw [hoe, if_neg (by omega)]
      have hm := hMY.2.2.2 _ hst
      dsimp only at hm
      rw [← ho2] at hm hlt hob
      exact Or.inr ⟨by omega, by omega, by omega, hm⟩
  have hor : -9 ≤ o ∧ o ≤ 7 := by omega
  refine r_istore_n dX8_laysField_4 (by decide) ?_
  dsimp only [lset]
  refine r_iload_n dX8_laysField_5 rfl ?_
  refine r_bipush dX8_laysField_6 (by decide) ?_
  refine r_icmpne (tgt := 40) dX8_laysField_8 (by decide) (by omega) (by omega) (fun h8 => ?_) (fun h8 => ?_)
  · refine r_aload_n dX8_laysField_40 rfl ?_
    refine r_aload_n dX8_laysField_41 rfl ?_
    refine q_getI fl_X8_119 dX8_laysField_42 sf_290 ?_
    rw [hs15]
    refine r_iload_n dX8_laysField_45 rfl ?_
    refine r_iconst dX8_laysField_46 ?_
    refine q_callVF lk_X8_54 dX8_laysField_47 (m_stopOf I R hRO s o 0 (by omega)) (by decide) sf_290 rfl rfl (Nat.le_of_ble_eq_true rfl) (by decide) ?_
    have hv : I 291 (3 + 27 * s + (3 + 3 * o + 0)) = (tPos y.2.2 D S.2.1) := by
      have hq : (tPos y.2.2 D S.2.1) = bhG y.2.2 S.2.1 80 := if_neg (by omega)
      rw [hq, Int.add_zero]
      omega
    rw [hv]
    exact h50 o ho
  · refine r_aload_n dX8_laysField_11 rfl ?_
    refine r_aload_n dX8_laysField_12 rfl ?_
    refine q_getI fl_X8_122 dX8_laysField_13 sf_290 ?_
    rw [hc13]
    refine r_aload_n dX8_laysField_16 rfl ?_
    refine q_callVF lk_X8_156 dX8_laysField_17 (m_lastStop I R hRO s hs hs15 y hMY hy.2.2.1 hy.2.2.2) (by decide) sf_290 rfl rfl (Nat.le_of_ble_eq_true rfl) (by decide) ?_
    have hlb := lastG_bd y.2.2 80
    have hlt := lastG_tab y.2.2 80 (Nat.le_refl _)
    refine r_icmple (tgt := 30) dX8_laysField_20 (by decide) (by omega) (by omega) (fun h20 => ?_) (fun h20 => ?_)
    · refine r_aload_n dX8_laysField_30 rfl ?_
      refine q_callVF lk_X8_156 dX8_laysField_31 (m_lastStop I R hRO s hs hs15 y hMY hy.2.2.1 hy.2.2.2) (by decide) sf_290 rfl rfl (Nat.le_of_ble_eq_true rfl) (by decide) ?_
      refine q_callVF lk_X8_159 dX8_laysField_34 (m_defaultBehind I R hRO D hD1 hD _ (by omega)) (by decide) sf_290 rfl rfl (Nat.le_of_ble_eq_true rfl) (by decide) ?_
      have hlc : lastG y.2.2 80 ≤ S.2.1 := by
        rcases hBR with h | h
        · rcases hlt with q | q
          · omega
          · exact h.2 _ q
        · omega
      have hTP : (tPos y.2.2 D S.2.1) = dfl D S.2.1 := if_pos (by omega)
      first
        | rw [show dfl D S.2.1 = (tPos y.2.2 D S.2.1) from hTP.symm]
        | rw [show lastG y.2.2 80 = S.2.1 by omega, show dfl D S.2.1 = (tPos y.2.2 D S.2.1) from hTP.symm]
      refine r_goto (tgt := 50) dX8_laysField_37 (by decide) ?_
      exact h50 o ho
    · refine r_aload_n dX8_laysField_23 rfl ?_
      refine q_getI fl_X8_122 dX8_laysField_24 sf_290 ?_
      rw [hc13]
      refine r_goto (tgt := 34) dX8_laysField_27 (by decide) ?_
      refine q_callVF lk_X8_159 dX8_laysField_34 (m_defaultBehind I R hRO D hD1 hD _ (by omega)) (by decide) sf_290 rfl rfl (Nat.le_of_ble_eq_true rfl) (by decide) ?_
      have hlc : lastG y.2.2 80 ≤ S.2.1 := by
        rcases hBR with h | h
        · rcases hlt with q | q
          · omega
          · exact h.2 _ q
        · omega
      have hTP : (tPos y.2.2 D S.2.1) = dfl D S.2.1 := if_pos (by omega)
      first
        | rw [show dfl D S.2.1 = (tPos y.2.2 D S.2.1) from hTP.symm]
        | rw [show lastG y.2.2 80 = S.2.1 by omega, show dfl D S.2.1 = (tPos y.2.2 D S.2.1) from hTP.symm]
      refine r_goto (tgt := 50) dX8_laysField_37 (by decide) ?_
      exact h50 o ho
