/-! the lines: the other object's, with bars -/
def mkB (g : Int → Int) (k q : Int) : Int := if 1 ≤ q ∧ q ≤ 80 ∧ 17 ≤ g q ∧ cntF g (q - 1).toNat < k then 1 else 0
/-- the cells, with bars where b is 1 -/
def MBar (I : Mem) (W : Int) (v : YV) (S : LSt) (b : Int → Int → Int) : Prop := ∀ r q : Int, 0 ≤ r → r ≤ S.1 → 0 ≤ q → q < W → I 296 (80 * r + q) = (if whG S r q = 0 ∧ b r q = 1 then 3 else whG S r q) ∧ I 295 (80 * r + q) = (if whG S r q = 0 ∧ b r q = 1 then 124 else chG v S r q)
theorem MBar.congr {I : Mem} {W : Int} {v : YV} {S : LSt} {b b1 : Int → Int → Int} (h : MBar I W v S b) (hb : ∀ r q : Int, 0 ≤ r → r ≤ S.1 → 0 ≤ q → q < W → b1 r q = b r q) : MBar I W v S b1 := fun r q r1 r2 q1 q2 => by
  rw [hb r q r1 r2 q1 q2]
  exact h r q r1 r2 q1 q2
theorem whG_in (S : LSt) (r q : Int) : 0 ≤ whG S r q ∧ whG S r q ≤ 2 := by
  unfold whG
  split
  · omega
  · split <;> omega
theorem mkB_01 (g : Int → Int) (k q : Int) : mkB g k q = 0 ∨ mkB g k q = 1 := by
  unfold mkB
  split
  · exact Or.inr rfl
  · exact Or.inl rfl
def bIn (g : Int → Int) (k row pos : Int) : Int → Int → Int := fun r q => if r < row ∧ q = pos then 1 else mkB g k q
set_option maxHeartbeats 4000000 in
set_option maxRecDepth 100000 in
theorem m_laysBars (I : Mem) (R : RMem) (hRO : RefOk R) {W D p s : Int} {y v : YV} (hC : MC I W D p s y v) (hWr : 20 ≤ W ∧ W ≤ 80) (hvl : 0 ≤ v.2.1 ∧ v.2.1 ≤ 80) (hy : WfY y) {S : LSt} {k0 : Int} (hG : MG I W v S k0) {kr kp : Int} (hI : Inv W S kr kp) (hkr : kr ≤ 84) : CC 4 0 0 yX8_laysBars cX8_laysBars 4 none [.inr (some 290)] (298, ShF, I, R) (PW R (fun I1 => MBar I1 W v S (fun _ q => mkB y.2.2 (cntF y.2.2 80) q) ∧ (∀ (x : Nat) (j : Int), x ≠ 295 → x ≠ 296 → I1 x j = I x j))) := by
  have hw14 := hC.1.1
  have hs15 := hC.1.2.1
  have hs := hC.2.2.1
  have hMY := hC.2.2.2.2.1
  have hY2 : I 291 (3 + 27 * s + 2) = cntF y.2.2 80 := hMY.2.2.1
  have h8 := hy.2.2.2
  have hcb := cntF_bd y.2.2 80
  have hi1 := hI.1
  have hl12 : I 290 12 = S.1 := hG.1
  have hinner : ∀ (k pos : Int), (0 ≤ k ∧ k < cntF y.2.2 80) → StpF y.2.2 pos → cntF y.2.2 (pos - 1).toNat = k → I 291 (3 + 27 * s + (3 + 3 * k + 1)) = (y.2.2 pos - 1) / 4 → (∀ (I1 : Mem) (u3 : Option MV), MBar I1 W v S (fun _ q => mkB y.2.2 (k + 1) q) → (∀ (x : Nat) (j : Int), x ≠ 295 → x ≠ 296 → I1 x j = I x j) → WW cX8_laysBars RX8 4 none false 4 0 0 (PW R (fun I1 => MBar I1 W v S (fun _ q => mkB y.2.2 (cntF y.2.2 80) q) ∧ (∀ (x : Nat) (j : Int), x ≠ 295 → x ≠ 296 → I1 x j = I x j))) 0 0 103 [some (.inr (some 290)), some (.inl k), some (.inl pos), u3] [] (298, ShF, I1, R)) → ∀ (n : Nat) (row : Int) (I1 : Mem), S.1 + 1 < row + n → (0 ≤ row ∧ row ≤ S.1 + 1) → MBar I1 W v S (bIn y.2.2 k row pos) → (∀ (x : Nat) (j : Int), x ≠ 295 → x ≠ 296 → I1 x j = I x j) → (row = 0 ∨ (17 ≤ y.2.2 pos ∧ pos < W)) → WW cX8_laysBars RX8 4 none false 4 0 0 (PW R (fun I1 => MBar I1 W v S (fun _ q => mkB y.2.2 (cntF y.2.2 80) q) ∧ (∀ (x : Nat) (j : Int), x ≠ 295 → x ≠ 296 → I1 x j = I x j))) 0 0 28 [some (.inr (some 290)), some (.inl k), some (.inl pos), some (.inl row)] [] (298, ShF, I1, R) := by
    intro k pos hk hq1 hq2 hq4 hK n
    have hqv := hy.2.2.1 pos hq1.1 hq1.2.1
    have hq11 := hq1.1
    have hq12 := hq1.2.1
    have hmk : ∀ q : Int, q ≠ pos → mkB y.2.2 (k + 1) q = mkB y.2.2 k q := fun q hq => by
      unfold mkB
      by_cases h : 1 ≤ q ∧ q ≤ 80 ∧ 17 ≤ y.2.2 q ∧ cntF y.2.2 (q - 1).toNat < k
      · rw [if_pos h, if_pos ⟨h.1, h.2.1, h.2.2.1, by omega⟩]
      · rw [if_neg h, if_neg]
        intro h2
        apply h
        refine ⟨h2.1, h2.2.1, h2.2.2.1, ?_⟩
        have h3 : cntF y.2.2 (q - 1).toNat ≠ k := fun e => hq (rank_eq ⟨h2.1, h2.2.1, by omega⟩ hq1 (by omega))
        omega
    have hmp : 17 ≤ y.2.2 pos → mkB y.2.2 (k + 1) pos = 1 := fun h => if_pos ⟨hq11, hq12, h, by omega⟩
    have hmp0 : mkB y.2.2 k pos = 0 := if_neg (by omega)
    have hmn : ¬ 17 ≤ y.2.2 pos → mkB y.2.2 (k + 1) pos = mkB y.2.2 k pos := fun h => by
      rw [hmp0]
      exact if_neg (by omega)
    induction n with
    | zero => intros; exfalso; omega
    | succ n ih =>
      intro row I1 g1 g2 g3 g4 g5
      refine r_iload_n dX8_laysBars_28 rfl ?_
      refine r_aload_n dX8_laysBars_29 rfl ?_
      refine q_getI fl_X8_113 dX8_laysBars_30 sf_290 ?_
      rw [g4 _ _ (by decide) (by decide), hl12]
      refine r_icmpgt (tgt := 103) dX8_laysBars_33 (by decide) (by omega) (by omega) (fun h33 => ?_) (fun h33 => ?_)
      · refine hK I1 _ (g3.congr (fun r q r1 r2 q1 q2 => ?_)) g4
        show mkB y.2.2 (k + 1) q = if r < row ∧ q = pos then 1 else mkB y.2.2 k q
        by_cases hqp : q = pos
        · rw [hqp]
          first
            | (rw [if_pos ⟨by omega, rfl⟩]
               exact hmp (by omega))
            | (rw [if_neg (by omega)]
               exact hmn (by omega))
            | (exfalso; omega)
        · rw [if_neg (fun z => hqp z.2)]
          exact hmk q hqp
      · refine r_aload_n dX8_laysBars_36 rfl ?_
        refine r_aload_n dX8_laysBars_37 rfl ?_
        refine q_getI fl_X8_119 dX8_laysBars_38 sf_290 ?_
        rw [g4 _ _ (by decide) (by decide), hs15]
        refine r_iload_n dX8_laysBars_41 rfl ?_
        refine r_iconst dX8_laysBars_42 ?_
        refine q_callVF lk_X8_54 dX8_laysBars_43 (m_stopOf I1 R hRO s k 1 (by omega)) (by decide) sf_290 rfl rfl (Nat.le_of_ble_eq_true rfl) (by decide) ?_
        have hkd : I1 291 (3 + 27 * s + (3 + 3 * k + 1)) = (y.2.2 pos - 1) / 4 := (g4 _ _ (by decide) (by decide)).trans hq4
        rw [hkd]
        refine r_iconst dX8_laysBars_46 ?_
        refine r_icmpne (tgt := 103) dX8_laysBars_47 (by decide) (by omega) (by omega) (fun h47 => ?_) (fun h47 => ?_)
        · refine hK I1 _ (g3.congr (fun r q r1 r2 q1 q2 => ?_)) g4
          show mkB y.2.2 (k + 1) q = if r < row ∧ q = pos then 1 else mkB y.2.2 k q
          by_cases hqp : q = pos
          · rw [hqp]
            first
              | (rw [if_pos ⟨by omega, rfl⟩]
                 exact hmp (by omega))
              | (rw [if_neg (by omega)]
                 exact hmn (by omega))
              | (exfalso; omega)
          · rw [if_neg (fun z => hqp z.2)]
            exact hmk q hqp
        · refine r_iload_n dX8_laysBars_50 rfl ?_
          refine r_aload_n dX8_laysBars_51 rfl ?_
          refine q_getI fl_X8_110 dX8_laysBars_52 sf_290 ?_
          rw [g4 _ _ (by decide) (by decide), hw14]
          refine r_icmpge (tgt := 103) dX8_laysBars_55 (by decide) (by omega) (by omega) (fun h55 => ?_) (fun h55 => ?_)
          · refine hK I1 _ (g3.congr (fun r q r1 r2 q1 q2 => ?_)) g4
            show mkB y.2.2 (k + 1) q = if r < row ∧ q = pos then 1 else mkB y.2.2 k q
            by_cases hqp : q = pos
            · rw [hqp]
              first
                | (rw [if_pos ⟨by omega, rfl⟩]
                   exact hmp (by omega))
                | (rw [if_neg (by omega)]
                   exact hmn (by omega))
                | (exfalso; omega)
            · rw [if_neg (fun z => hqp z.2)]
              exact hmk q hqp
          · refine r_aload_n dX8_laysBars_58 rfl ?_
            refine q_getR fl_X8_26 dX8_laysBars_59 sf_290 (ro_290_9 hRO) ?_
            refine r_bipush dX8_laysBars_62 (by decide) ?_
            refine r_iload_n dX8_laysBars_64 rfl ?_
            refine r_imul dX8_laysBars_65 ?_
            refine r_iload_n dX8_laysBars_66 rfl ?_
            refine r_iadd dX8_laysBars_67 ?_
            refine q_bald dX8_laysBars_68 sf_296 (by omega) ?_
            have hcell := g3 row pos (by omega) (by omega) (by omega) (by omega)
            have hb0 : bIn y.2.2 k row pos row pos = 0 := (if_neg (by omega)).trans hmp0
            rw [hb0, if_neg (by omega), if_neg (by omega)] at hcell
            rw [hcell.1]
            have hwi := whG_in S row pos
            refine r_ifne (tgt := 97) dX8_laysBars_69 (by decide) (by omega) (fun h69 => ?_) (fun h69 => ?_)
            · refine r_iinc dX8_laysBars_97 rfl (by decide) ?_
              dsimp only [lset]
              refine r_goto (tgt := 28) dX8_laysBars_100 (by decide) ?_
              first
                | (have hwn : whG S row pos ≠ 0 := by omega
                   refine ih (row + 1) I1 (by omega) (by omega) (fun r q r1 r2 q1 q2 => ?_) g4 (Or.inr ⟨by omega, by omega⟩)
                   have h9 := g3 r q r1 r2 q1 q2
                   by_cases hrq : r = row ∧ q = pos
                   · rw [hrq.1, hrq.2] at h9 ⊢
                     rw [if_neg (fun z => hwn z.1), if_neg (fun z => hwn z.1)] at h9
                     rw [if_neg (fun z => hwn z.1), if_neg (fun z => hwn z.1)]
                     exact h9
                   · have e : bIn y.2.2 k (row + 1) pos r q = bIn y.2.2 k row pos r q := by
                       unfold bIn
                       by_cases hh : r < row ∧ q = pos
                       · rw [if_pos hh, if_pos ⟨by omega, hh.2⟩]
                       · rw [if_neg hh, if_neg (by omega)]
                     rw [e]
                     exact h9)
                | (have hw0 : whG S row pos = 0 := by omega
                   refine ih (row + 1) _ (by omega) (by omega) (fun r q r1 r2 q1 q2 => ?_) (fun x j h1 h2 => by rw [u2_n (Or.inl h2), u2_n (Or.inl h1)]; exact g4 x j h1 h2) (Or.inr ⟨by omega, by omega⟩)
                   have h9 := g3 r q r1 r2 q1 q2
                   have e6 : u2 (u2 I1 295 (80 * row + pos) 124) 296 (80 * row + pos) 3 296 (80 * r + q) = if r = row ∧ q = pos then 3 else I1 296 (80 * r + q) := by
                     rw [u2_at, u2_n (Or.inl (by decide))]
                     by_cases hrq : r = row ∧ q = pos
                     · rw [if_pos ⟨rfl, by omega⟩, if_pos hrq]
                     · rw [if_neg (by omega), if_neg hrq]
                   have e5 : u2 (u2 I1 295 (80 * row + pos) 124) 296 (80 * row + pos) 3 295 (80 * r + q) = if r = row ∧ q = pos then 124 else I1 295 (80 * r + q) := by
                     rw [u2_n (Or.inl (by decide)), u2_at]
                     by_cases hrq : r = row ∧ q = pos
                     · rw [if_pos ⟨rfl, by omega⟩, if_pos hrq]
                     · rw [if_neg (by omega), if_neg hrq]
                   rw [e6, e5]
                   by_cases hrq : r = row ∧ q = pos
                   · have hc : whG S r q = 0 ∧ bIn y.2.2 k (row + 1) pos r q = 1 := ⟨by rw [hrq.1, hrq.2]; exact hw0, if_pos ⟨by omega, hrq.2⟩⟩
                     rw [if_pos hrq, if_pos hrq]
                     exact ⟨(if_pos hc).symm, (if_pos hc).symm⟩
                   · have e : bIn y.2.2 k (row + 1) pos r q = bIn y.2.2 k row pos r q := by
                       unfold bIn
                       by_cases hh : r < row ∧ q = pos
                       · rw [if_pos hh, if_pos ⟨by omega, hh.2⟩]
                       · rw [if_neg hh, if_neg (by omega)]
                     rw [e, if_neg hrq, if_neg hrq]
                     exact h9)
            · refine r_aload_n dX8_laysBars_72 rfl ?_
              refine q_getR fl_X8_23 dX8_laysBars_73 sf_290 (ro_290_8 hRO) ?_
              refine r_bipush dX8_laysBars_76 (by decide) ?_
              refine r_iload_n dX8_laysBars_78 rfl ?_
              refine r_imul dX8_laysBars_79 ?_
              refine r_iload_n dX8_laysBars_80 rfl ?_
              refine r_iadd dX8_laysBars_81 ?_
              refine r_bipush dX8_laysBars_82 (by decide) ?_
              refine q_bast dX8_laysBars_84 sf_295 (by omega) (by decide) ?_
              refine r_aload_n dX8_laysBars_85 rfl ?_
              refine q_getR fl_X8_26 dX8_laysBars_86 sf_290 (ro_290_9 hRO) ?_
              refine r_bipush dX8_laysBars_89 (by decide) ?_
              refine r_iload_n dX8_laysBars_91 rfl ?_
              refine r_imul dX8_laysBars_92 ?_
              refine r_iload_n dX8_laysBars_93 rfl ?_
              refine r_iadd dX8_laysBars_94 ?_
              refine r_iconst dX8_laysBars_95 ?_
              refine q_bast dX8_laysBars_96 sf_296 (by omega) (by decide) ?_
              refine r_iinc dX8_laysBars_97 rfl (by decide) ?_
              dsimp only [lset]
              refine r_goto (tgt := 28) dX8_laysBars_100 (by decide) ?_
              first
                | (have hwn : whG S row pos ≠ 0 := by omega
                   refine ih (row + 1) I1 (by omega) (by omega) (fun r q r1 r2 q1 q2 => ?_) g4 (Or.inr ⟨by omega, by omega⟩)
                   have h9 := g3 r q r1 r2 q1 q2
                   by_cases hrq : r = row ∧ q = pos
                   · rw [hrq.1, hrq.2] at h9 ⊢
                     rw [if_neg (fun z => hwn z.1), if_neg (fun z => hwn z.1)] at h9
                     rw [if_neg (fun z => hwn z.1), if_neg (fun z => hwn z.1)]
                     exact h9
                   · have e : bIn y.2.2 k (row + 1) pos r q = bIn y.2.2 k row pos r q := by
                       unfold bIn
                       by_cases hh : r < row ∧ q = pos
                       · rw [if_pos hh, if_pos ⟨by omega, hh.2⟩]
                       · rw [if_neg hh, if_neg (by omega)]
                     rw [e]
                     exact h9)
                | (have hw0 : whG S row pos = 0 := by omega
                   refine ih (row + 1) _ (by omega) (by omega) (fun r q r1 r2 q1 q2 => ?_) (fun x j h1 h2 => by rw [u2_n (Or.inl h2), u2_n (Or.inl h1)]; exact g4 x j h1 h2) (Or.inr ⟨by omega, by omega⟩)
                   have h9 := g3 r q r1 r2 q1 q2
                   have e6 : u2 (u2 I1 295 (80 * row + pos) 124) 296 (80 * row + pos) 3 296 (80 * r + q) = if r = row ∧ q = pos then 3 else I1 296 (80 * r + q) := by
                     rw [u2_at, u2_n (Or.inl (by decide))]
                     by_cases hrq : r = row ∧ q = pos
                     · rw [if_pos ⟨rfl, by omega⟩, if_pos hrq]
                     · rw [if_neg (by omega), if_neg hrq]
                   have e5 : u2 (u2 I1 295 (80 * row + pos) 124) 296 (80 * row + pos) 3 295 (80 * r + q) = if r = row ∧ q = pos then 124 else I1 295 (80 * r + q) := by
                     rw [u2_n (Or.inl (by decide)), u2_at]
                     by_cases hrq : r = row ∧ q = pos
                     · rw [if_pos ⟨rfl, by omega⟩, if_pos hrq]
                     · rw [if_neg (by omega), if_neg hrq]
                   rw [e6, e5]
                   by_cases hrq : r = row ∧ q = pos
                   · have hc : whG S r q = 0 ∧ bIn y.2.2 k (row + 1) pos r q = 1 := ⟨by rw [hrq.1, hrq.2]; exact hw0, if_pos ⟨by omega, hrq.2⟩⟩
                     rw [if_pos hrq, if_pos hrq]
                     exact ⟨(if_pos hc).symm, (if_pos hc).symm⟩
                   · have e : bIn y.2.2 k (row + 1) pos r q = bIn y.2.2 k row pos r q := by
                       unfold bIn
                       by_cases hh : r < row ∧ q = pos
                       · rw [if_pos hh, if_pos ⟨by omega, hh.2⟩]
                       · rw [if_neg hh, if_neg (by omega)]
                     rw [e, if_neg hrq, if_neg hrq]
                     exact h9)
  have hloop : ∀ (n : Nat) (k : Int) (w2 w3 : Option MV) (I1 : Mem), 8 < k + n → (0 ≤ k ∧ k ≤ cntF y.2.2 80) → MBar I1 W v S (fun _ q => mkB y.2.2 k q) → (∀ (x : Nat) (j : Int), x ≠ 295 → x ≠ 296 → I1 x j = I x j) → WW cX8_laysBars RX8 4 none false 4 0 0 (PW R (fun I1 => MBar I1 W v S (fun _ q => mkB y.2.2 (cntF y.2.2 80) q) ∧ (∀ (x : Nat) (j : Int), x ≠ 295 → x ≠ 296 → I1 x j = I x j))) 0 0 2 [some (.inr (some 290)), some (.inl (k)), w2, w3] [] (298, ShF, I1, R) := by
    intro n
    induction n with
    | zero => intros; exfalso; omega
    | succ n ih =>
      intro k w2 w3 I1 g1 g2 g3 g4
      have hY2k : I1 291 (3 + 27 * s + 2) = cntF y.2.2 80 := (g4 _ _ (by decide) (by decide)).trans hY2
      have hs15k : I1 290 15 = s := (g4 _ _ (by decide) (by decide)).trans hs15
      refine r_iload_n dX8_laysBars_2 rfl ?_
      refine r_aload_n dX8_laysBars_3 rfl ?_
      refine r_aload_n dX8_laysBars_4 rfl ?_
      refine q_getI fl_X8_119 dX8_laysBars_5 sf_290 ?_
      rw [hs15k]
      refine r_iconst dX8_laysBars_8 ?_
      refine q_callVF lk_X8_44 dX8_laysBars_9 (m_of I1 R hRO s 2 (by omega)) (by decide) sf_290 rfl rfl (Nat.le_of_ble_eq_true rfl) (by decide) ?_
      rw [hY2k]
      refine r_icmpge (tgt := 109) dX8_laysBars_12 (by decide) (by omega) (by omega) (fun h12 => ?_) (fun h12 => ?_)
      · refine q_vretW dX8_laysBars_109 rfl ?_
        rw [show k = cntF y.2.2 80 by omega] at g3
        exact ⟨g3, g4⟩
      · obtain ⟨q, hq1, hq2, hq3, hq4, -⟩ := hMY.pos (k := k) (by omega)
        have hq3 : I 291 (3 + 27 * s + (3 + 3 * k)) = q := hq3
        have hq4 : I 291 (3 + 27 * s + (3 + 3 * k + 1)) = (y.2.2 q - 1) / 4 := hq4
        have hq11 := hq1.1
        refine r_aload_n dX8_laysBars_15 rfl ?_
        refine r_aload_n dX8_laysBars_16 rfl ?_
        refine q_getI fl_X8_119 dX8_laysBars_17 sf_290 ?_
        rw [hs15k]
        refine r_iload_n dX8_laysBars_20 rfl ?_
        refine r_iconst dX8_laysBars_21 ?_
        refine q_callVF lk_X8_54 dX8_laysBars_22 (m_stopOf I1 R hRO s k 0 (by omega)) (by decide) sf_290 rfl rfl (Nat.le_of_ble_eq_true rfl) (by decide) ?_
        rw [Int.add_zero, g4 _ _ (by decide) (by decide), hq3]
        refine r_istore_n dX8_laysBars_25 (by decide) ?_
        dsimp only [lset]
        refine r_iconst dX8_laysBars_26 ?_
        refine r_istore_n dX8_laysBars_27 (by decide) ?_
        dsimp only [lset]
        refine hinner k q (by omega) hq1 hq2 hq4 (fun I2 u h1 h2 => ?_) ((S.1 + 1).toNat + 1) 0 I1 (by omega) (by omega) (g3.congr (fun r x r1 r2 q1 q2 => if_neg (by omega))) g4 (Or.inl rfl)
        refine r_iinc dX8_laysBars_103 rfl (by decide) ?_
        dsimp only [lset]
        refine r_goto (tgt := 2) dX8_laysBars_106 (by decide) ?_
        exact ih (k + 1) _ _ I2 (by omega) (by omega) h1 h2
  refine CC_of (own := RX8) (ini := false) (by decide +kernel) rfl (fun h => absurd h (by decide)) (Nat.le_of_ble_eq_true rfl) ?_
  show WW cX8_laysBars RX8 4 none false 4 0 0 (PW R (fun I1 => MBar I1 W v S (fun _ q => mkB y.2.2 (cntF y.2.2 80) q) ∧ (∀ (x : Nat) (j : Int), x ≠ 295 → x ≠ 296 → I1 x j = I x j))) 0 0 0 [some (.inr (some 290)), none, none, none] [] (298, ShF, I, R)
  refine r_iconst dX8_laysBars_0 ?_
  refine r_istore_n dX8_laysBars_1 (by decide) ?_
  dsimp only [lset]
  refine hloop 9 0 _ _ I (by omega) (by omega) (fun r q r1 r2 q1 q2 => ?_) (fun _ _ _ _ => rfl)
  have e : mkB y.2.2 0 q = 0 := if_neg (fun z => by have := (cntF_bd y.2.2 (q - 1).toNat).1; omega)
  dsimp only
  rw [if_neg (fun z => absurd (e.symm.trans z.2) (by decide)), if_neg (fun z => absurd (e.symm.trans z.2) (by decide))]
  exact hG.2.2.2 r q r1 r2 q1 q2
