/-! the lines: the other object's, whole -/
def MKF (I1 I : Mem) : Prop := ∀ (x : Nat) (j : Int), ¬ (x = 290 ∧ (j = 12 ∨ j = 13 ∨ j = 17)) → ¬ (295 ≤ x ∧ x ≤ 297) → I1 x j = I x j
theorem MC.keptF {I I1 : Mem} {W D p s : Int} {y v : YV} (h : MC I W D p s y v) (hk : MKF I1 I) : MC I1 W D p s y v := by
  have e91 : I1 291 = I 291 := funext fun j => hk _ _ (by omega) (by omega)
  unfold MC
  rw [hk _ _ (by omega) (by omega), hk _ _ (by omega) (by omega), hk _ _ (by omega) (by omega), e91]
  exact h
theorem MG.keptc {I I1 : Mem} {W : Int} {v : YV} {S : LSt} {k : Int} (h : MG I W v S k) (hk : ∀ (x : Nat) (j : Int), (x = 290 ∧ (j = 12 ∨ j = 13)) ∨ 295 ≤ x → I1 x j = I x j) : MG I1 W v S k := by
  refine ⟨(hk _ _ (by omega)).trans h.1, (hk _ _ (by omega)).trans h.2.1, fun q w a b c d => (hk _ _ (by omega)).trans (h.2.2.1 q w a b c d), fun r q a b c d => ?_⟩
  rw [hk _ _ (by omega), hk _ _ (by omega)]
  exact h.2.2.2 r q a b c d
set_option maxHeartbeats 4000000 in
set_option maxRecDepth 100000 in
theorem m_lays (I : Mem) (R : RMem) (hRO : RefOk R) (a : AS) (hM : MI I a) (p W : Int) (hp : 0 ≤ p ∧ p ≤ a.1.1.2.2 - 1) (hWr : 20 ≤ W ∧ W ≤ 80) : CC 7 0 0 yX8_lays cX8_lays 5 (some .int) [.inr (some 290), .inl (p), .inl (W)] (298, ShF, I, R) (PZ R (fun z I1 => z = (lyA a p W).1 + 1 ∧ MBar I1 W (a.1.2.2 p.toNat) (lyA a p W) (fun _ q => mkB (yOf a p).2.2 (cntF (yOf a p).2.2 80) q) ∧ (∀ q w : Int, 0 ≤ q → q < (wdT (a.1.2.2 p.toNat)).2.2.1 → 0 ≤ w → w < 6 → I1 297 (6 * q + w) = (lyA a p W).2.2.2.2 q w) ∧ I1 290 11 = (wdT (a.1.2.2 p.toNat)).2.2.1 ∧ I1 290 14 = W ∧ ∀ (x : Nat) (j : Int), ¬ (x = 290 ∧ 11 ≤ j ∧ j ≤ 17) → ¬ (295 ≤ x ∧ x ≤ 297) → I1 x j = I x j)) := by
  have hA := hM.1
  have hW := hA.1
  have hW1 := hW.1
  have hW2 := hW.2.1
  have hW3 := hW.2.2.1
  have hS := hM.2.1
  have hwv := hW.2.2.2.2 p.toNat (by omega)
  have hs3 := hwv.1
  have hwy : WfY (yOf a p) := hW.2.2.2.1 (a.1.2.2 p.toNat).1.toNat (by omega)
  have hMP := hS.2.2.2.2 p (by omega) (by omega)
  have hMY := hS.2.2.2.1 (a.1.2.2 p.toNat).1 (by omega) (by omega)
  have hMY : MY (fun j => I 291 (3 + 27 * (a.1.2.2 p.toNat).1 + j)) (yOf a p) := hMY
  have hD1 : I 291 1 = a.1.1.2.1 := hS.2.1
  have hb0 : I 291 (111 + 82 * p) = (a.1.2.2 p.toNat).1 := by
    have := hMP.1
    dsimp only at this
    rw [Int.add_zero] at this
    exact this
  have hvl := hwv.2.1
  have hok := hwv.2.2
  have hyH := hwy.2.1
  have hyF := hwy.1
  obtain ⟨hnf, fs, hO⟩ := (wdT_ok hwv).fs
  have hlast := wdT_last (a.1.2.2 p.toNat)
  have hnw := (hO.2.2 ((wdT (a.1.2.2 p.toNat)).2.2.1 - 1) (by omega) (by omega)).2.2.2.2.1
  have hlay : lyA a p W = sFs W a.1.1.2.1 (yOf a p).2.1 (yOf a p).2.2 (wdT (a.1.2.2 p.toNat)) (wdT (a.1.2.2 p.toNat)).2.2.1.toNat (S0 (yOf a p).1) := rfl
  have hinvL : Inv W (lyA a p W) 80 80 := layS_inv (by omega) hW2 hwy hwv
  rw [hlay] at hinvL ⊢
  clear hlay
  generalize wdT (a.1.2.2 p.toNat) = T at hnf hO hlast hnw hinvL ⊢
  generalize a.1.2.2 p.toNat = v at hwv hs3 hMP hMY hb0 hvl hok hO hnf hnw hlast ⊢
  generalize yOf a p = y at hwy hMY hyH hyF hinvL ⊢
  have hinv := sFs_inv (W := W) (D := a.1.1.2.1) (H := y.2.1) (g := y.2.2) (c0 := y.1) ⟨hyH.1, by omega⟩ hW2 hwy.2.2.1 ⟨hyF.1, by omega⟩ hO
  have hloop : ∀ (n : Nat) (i fr k : Int) (I1 : Mem), v.2.1 + 1 < k + n → ((0 ≤ i ∧ i ≤ T.2.2.1) ∧ k ≤ v.2.1 + 1) → (i < T.2.2.1 → fr = fs i ∧ fs i ≤ k ∧ k ≤ (fs (i + 1) - 1)) → (i = T.2.2.1 → k = v.2.1 + 1) → MG I1 W v (sFs W a.1.1.2.1 y.2.1 y.2.2 T i.toNat (S0 y.1)) i → I1 290 17 = i → MC I1 W a.1.1.2.1 p v.1 y v → (∀ (x : Nat) (j : Int), ¬ (x = 290 ∧ 11 ≤ j ∧ j ≤ 17) → ¬ (295 ≤ x ∧ x ≤ 297) → I1 x j = I x j) → WW cX8_lays RX8 5 (some .int) false 7 0 0 (PZ R (fun z I1 => z = (sFs W a.1.1.2.1 y.2.1 y.2.2 T T.2.2.1.toNat (S0 y.1)).1 + 1 ∧ MBar I1 W v (sFs W a.1.1.2.1 y.2.1 y.2.2 T T.2.2.1.toNat (S0 y.1)) (fun _ q => mkB y.2.2 (cntF y.2.2 80) q) ∧ (∀ q w : Int, 0 ≤ q → q < T.2.2.1 → 0 ≤ w → w < 6 → I1 297 (6 * q + w) = (sFs W a.1.1.2.1 y.2.1 y.2.2 T T.2.2.1.toNat (S0 y.1)).2.2.2.2 q w) ∧ I1 290 11 = T.2.2.1 ∧ I1 290 14 = W ∧ ∀ (x : Nat) (j : Int), ¬ (x = 290 ∧ 11 ≤ j ∧ j ≤ 17) → ¬ (295 ≤ x ∧ x ≤ 297) → I1 x j = I x j)) 0 0 58 [some (.inr (some 290)), some (.inl (p)), some (.inl (W)), some (.inl (fr)), some (.inl (k))] [] (298, ShF, I1, R) := by
    intro n
    induction n with
    | zero => intros; exfalso; omega
    | succ n ih =>
      intro i fr k I1 g1 g2 g3 g4 g5 g6 g7 g8
      refine r_iload dX8_lays_58 rfl ?_
      have hknn : i < T.2.2.1 → 0 ≤ k := fun q => by
        have h1 := hO.2.2 i (by omega) q
        have h2 := h1.2.2.2.2.2.2.1
        have h3 := g3 q
        omega
      have hk0 : 0 ≤ k := by
        by_cases q : i < T.2.2.1
        · exact hknn q
        · have := g4 (by omega)
          omega
      refine r_aload_n dX8_lays_60 rfl ?_
      refine q_callVF lk_X8_175 dX8_lays_61 (m_length I1 R hRO g7 hWr hvl) (by decide) sf_290 rfl rfl (Nat.le_of_ble_eq_true rfl) (by decide) ?_
      refine r_icmpgt (tgt := 142) dX8_lays_64 (by decide) (by omega) (by omega) (fun h64 => ?_) (fun h64 => ?_)
      · refine r_aload_n dX8_lays_142 rfl ?_
        refine r_aload_n dX8_lays_143 rfl ?_
        refine q_getI fl_X8_125 dX8_lays_144 sf_290 ?_
        rw [g6]
        refine q_putI fl_X8_181 dX8_lays_147 sf_290 ?_
        refine r_aload_n dX8_lays_150 rfl ?_
        have hie : i = T.2.2.1 := by
          by_cases q : i < T.2.2.1
          · have h1 := g3 q
            have h2 := (hO.2.2 i (by omega) q).2.1
            omega
          · omega
        rw [hie] at g5
        have hC5 : MC (u2 I1 290 11 i) W a.1.1.2.1 p v.1 y v := by
          have e91 : u2 I1 290 11 i 291 = I1 291 := funext fun j => u2_n (Or.inl (by decide))
          unfold MC
          rw [u2_n (Or.inr (by decide)), u2_n (Or.inr (by decide)), u2_n (Or.inr (by decide)), e91]
          exact g7
        have hG5 : MG (u2 I1 290 11 i) W v (sFs W a.1.1.2.1 y.2.1 y.2.2 T T.2.2.1.toNat (S0 y.1)) T.2.2.1 := g5.keptc (fun x j h => u2_n (by omega))
        refine q_callVW lk_X8_184 dX8_lays_151 (m_laysBars _ R hRO hC5 hWr hvl hwy hG5 hinvL (by omega)) (by decide) sf_290 rfl rfl (Nat.le_of_ble_eq_true rfl) (by decide) (fun I6 hI6 => ?_)
        refine r_aload_n dX8_lays_154 rfl ?_
        refine q_getI fl_X8_113 dX8_lays_155 sf_290 ?_
        rw [hI6.2 _ _ (by decide) (by decide), hG5.1]
        refine r_iconst dX8_lays_158 ?_
        refine r_iadd dX8_lays_159 ?_
        refine q_iretZ dX8_lays_160 rfl ?_
        refine ⟨rfl, hI6.1, fun q w q1 q2 w1 w2 => ?_, ?_, ?_, fun x j h1 h2 => ?_⟩
        · rw [hI6.2 _ _ (by decide) (by decide)]
          exact hG5.2.2.1 q w q1 q2 w1 w2
        · rw [hI6.2 _ _ (by decide) (by decide), u2_s]
          exact hie
        · rw [hI6.2 _ _ (by decide) (by decide)]
          exact hC5.1.1
        · rw [hI6.2 _ _ (by omega) (by omega), u2_n (by omega)]
          exact g8 x j h1 h2
      · refine r_iload dX8_lays_67 rfl ?_
        refine r_aload_n dX8_lays_69 rfl ?_
        refine q_callVF lk_X8_175 dX8_lays_70 (m_length I1 R hRO g7 hWr hvl) (by decide) sf_290 rfl rfl (Nat.le_of_ble_eq_true rfl) (by decide) ?_
        refine r_icmpeq (tgt := 87) dX8_lays_73 (by decide) (by omega) (by omega) (fun h73 => ?_) (fun h73 => ?_)
        · have hin1 : i < T.2.2.1 := by
            by_cases q : i < T.2.2.1
            · exact q
            · have := g4 (by omega)
              omega
          have hf := hO.fp (f := i) (by omega) hin1
          have hfd := hO.2.2 i (by omega) hin1
          have hfd21 := hfd.2.1
          have hfk := g3 hin1
          have hkto : k = (fs (i + 1) - 1) := by
            first
              | omega
              | (by_cases q : k = (fs (i + 1) - 1)
                 · exact q
                 · exact absurd (by omega) (hfd.2.2.1 k (by omega) (by omega)))
          rw [hkto, hfk.1]
          have hic : ((i.toNat : Nat) : Int) = i := by omega
          have hin := hinv i.toNat (by omega)
          have hst : sFs W a.1.1.2.1 y.2.1 y.2.2 T (i + 1).toNat (S0 y.1) = sFd W a.1.1.2.1 y.2.1 y.2.2 T i (sFs W a.1.1.2.1 y.2.1 y.2.2 T i.toNat (S0 y.1)) := by
            rw [show (i + 1).toNat = i.toNat + 1 by omega]
            show sFd W a.1.1.2.1 y.2.1 y.2.2 T ((i.toNat : Nat) : Int) _ = _
            rw [hic]
          have hHr : 0 ≤ y.2.1 ∧ y.2.1 < W := ⟨hyH.1, by omega⟩
          refine r_aload_n dX8_lays_87 rfl ?_
          refine q_getI fl_X8_125 dX8_lays_88 sf_290 ?_
          rw [g6]
          refine r_ifne (tgt := 114) dX8_lays_91 (by decide) (by omega) (fun h91 => ?_) (fun h91 => ?_)
          · refine r_aload_n dX8_lays_114 rfl ?_
            refine r_iload_n dX8_lays_115 rfl ?_
            refine r_iload dX8_lays_116 rfl ?_
            have hin2 : Inv W (sFs W a.1.1.2.1 y.2.1 y.2.2 T i.toNat (S0 y.1)) (fs i - 1) (fs i - 1) := by
              rcases hin with h | h
              · omega
              · rw [hic] at h
                exact h.2
            have hfdb := hfd.2.2.2
            refine q_callVW lk_X8_178 dX8_lays_118 (m_laysField I1 R hRO g7 hWr hvl hok hHr i g6 (by omega) g5 hW2 hwy (fs i) (fs (i + 1) - 1) (fF T.2.2.2.2.2.2 i) (T.2.2.2.2.2.2 i) hf (by omega) (by omega) hin2 (by omega)) (by decide) sf_290 rfl rfl (Nat.le_of_ble_eq_true rfl) (by decide) (fun I9 hI9 => ?_)
            have hG9 : MG I9 W v (sFd W a.1.1.2.1 y.2.1 y.2.2 T i (sFs W a.1.1.2.1 y.2.1 y.2.2 T i.toNat (S0 y.1))) (i + 1) := by
              unfold sFd
              rw [if_neg (by omega)]
              exact hI9.1
            have hK9 : MK I9 I1 := hI9.2
            refine r_aload_n dX8_lays_121 rfl ?_
            refine r_dup dX8_lays_122 ?_
            refine q_getI fl_X8_125 dX8_lays_123 sf_290 ?_
            have h97 : I9 290 17 = i := (hK9 _ _ (by omega) (by omega)).trans g6
            rw [h97]
            refine r_iconst dX8_lays_126 ?_
            refine r_iadd dX8_lays_127 ?_
            refine q_putI fl_X8_125 dX8_lays_128 sf_290 ?_
            refine r_iload dX8_lays_131 rfl ?_
            refine r_iconst dX8_lays_133 ?_
            refine r_iadd dX8_lays_134 ?_
            refine r_istore_n dX8_lays_135 (by decide) ?_
            dsimp only [lset]
            refine r_iinc dX8_lays_136 rfl (by decide) ?_
            dsimp only [lset]
            refine r_goto (tgt := 58) dX8_lays_139 (by decide) ?_
            have hk9 : ∀ (x : Nat) (j : Int), ¬ (x = 290 ∧ (j = 12 ∨ j = 13 ∨ j = 17)) → ¬ (295 ≤ x ∧ x ≤ 297) → u2 I9 290 17 (i + 1) x j = I1 x j := fun x j h1 h2 => by rw [u2_n (by omega)]; exact hK9 x j (by omega) h2
            refine ih (i + 1) _ _ _ (by omega) (by omega) (fun q => ?_) (fun q => ?_) ?_ u2_s (g7.keptF hk9) (fun x j h1 h2 => by rw [hk9 x j (by omega) h2]; exact g8 x j h1 h2)
            · have h5 := (hO.fp (f := i + 1) (by omega) q).1.bd
              refine ⟨by omega, by omega, h5 |> fun h => by omega⟩
            · have h6 := hfd.1
              rw [if_pos (show i = T.2.2.1 - 1 by omega)] at h6
              omega
            · rw [hst]
              exact hG9.keptc (fun x j h => u2_n (by omega))
          · refine r_aload_n dX8_lays_94 rfl ?_
            refine r_bipush dX8_lays_95 (by decide) ?_
            refine r_bipush dX8_lays_97 (by decide) ?_
            refine r_bipush dX8_lays_99 (by decide) ?_
            have h0 : i = 0 := by omega
            have hS0 : (sFs W a.1.1.2.1 y.2.1 y.2.2 T i.toNat (S0 y.1)) = S0 y.1 := by
              rcases hin with h | h
              · exact h.2
              · omega
            have hab := hf.1.1
            have hbd := hf.1.bd
            refine q_callVW lk_X8_146 dX8_lays_101 (m_begins I1 R hRO i g6 (by omega) (-9) (-9) (-9)) (by decide) sf_290 rfl rfl (Nat.le_of_ble_eq_true rfl) (by decide) (fun I4 hI4 => ?_)
            have hG4 : MG I4 W v (sBeg i (sFs W a.1.1.2.1 y.2.1 y.2.2 T i.toNat (S0 y.1)) (-9) (-9) (-9)) (i + 1) := by
              rw [hI4]
              exact g5.beg (by omega)
            have hk4 : MK I4 I1 := fun x j h1 h2 => by
              rw [hI4]
              exact mbI_n (by omega)
            have hi0 : Inv W (sBeg i (sFs W a.1.1.2.1 y.2.1 y.2.2 T i.toNat (S0 y.1)) (-9) (-9) (-9)) 0 0 := by
              rw [hS0]
              exact ⟨⟨Int.le_refl 0, Int.le_refl 0⟩, ⟨hyF.1, by show y.1 ≤ W; omega⟩, ⟨Int.le_refl 0, Int.le_refl 0⟩, fun i i1 i2 => by have i2 : i < 0 := i2; omega, fun i j i1 ij j2 => by have j2 : j < 0 := j2; omega⟩
            have hc9 : (sBeg i (sFs W a.1.1.2.1 y.2.1 y.2.2 T i.toNat (S0 y.1)) (-9) (-9) (-9)).2.1 = y.1 := by rw [hS0]; rfl
            have hSr : (sFs W a.1.1.2.1 y.2.1 y.2.2 T i.toNat (S0 y.1)).1 = 0 := by rw [hS0]; rfl
            refine r_aload_n dX8_lays_104 rfl ?_
            refine r_iload_n dX8_lays_105 rfl ?_
            refine r_iload dX8_lays_106 rfl ?_
            refine q_callVW lk_X8_150 dX8_lays_108 (m_flows I4 R hRO (g7.kept hk4) hWr hvl hok hHr i ((hk4 _ _ (by omega) (by omega)).trans g6) (by omega) (by omega) hG4 (fs i) (fs (i + 1) - 1) (fF T.2.2.2.2.2.2 i) (T.2.2.2.2.2.2 i) hf.1 (by omega) hi0 (by omega) (fun q => ⟨by have := (hf.1.2.2.1.1 q).1; have := hf.1.2.1; omega, by rw [hc9]; omega⟩) (by rw [sBeg_F0, hSr]; omega)) (by decide) sf_290 rfl rfl (Nat.le_of_ble_eq_true rfl) (by decide) (fun I9 hI9 => ?_)
            have hG9 : MG I9 W v (sFd W a.1.1.2.1 y.2.1 y.2.2 T i (sFs W a.1.1.2.1 y.2.1 y.2.2 T i.toNat (S0 y.1))) (i + 1) := by
              unfold sFd
              rw [if_pos h0]
              exact hI9.1
            have hK9 : MK I9 I1 := hI9.2.trans hk4
            refine r_goto (tgt := 121) dX8_lays_111 (by decide) ?_
            refine r_aload_n dX8_lays_121 rfl ?_
            refine r_dup dX8_lays_122 ?_
            refine q_getI fl_X8_125 dX8_lays_123 sf_290 ?_
            have h97 : I9 290 17 = i := (hK9 _ _ (by omega) (by omega)).trans g6
            rw [h97]
            refine r_iconst dX8_lays_126 ?_
            refine r_iadd dX8_lays_127 ?_
            refine q_putI fl_X8_125 dX8_lays_128 sf_290 ?_
            refine r_iload dX8_lays_131 rfl ?_
            refine r_iconst dX8_lays_133 ?_
            refine r_iadd dX8_lays_134 ?_
            refine r_istore_n dX8_lays_135 (by decide) ?_
            dsimp only [lset]
            refine r_iinc dX8_lays_136 rfl (by decide) ?_
            dsimp only [lset]
            refine r_goto (tgt := 58) dX8_lays_139 (by decide) ?_
            have hk9 : ∀ (x : Nat) (j : Int), ¬ (x = 290 ∧ (j = 12 ∨ j = 13 ∨ j = 17)) → ¬ (295 ≤ x ∧ x ≤ 297) → u2 I9 290 17 (i + 1) x j = I1 x j := fun x j h1 h2 => by rw [u2_n (by omega)]; exact hK9 x j (by omega) h2
            refine ih (i + 1) _ _ _ (by omega) (by omega) (fun q => ?_) (fun q => ?_) ?_ u2_s (g7.keptF hk9) (fun x j h1 h2 => by rw [hk9 x j (by omega) h2]; exact g8 x j h1 h2)
            · have h5 := (hO.fp (f := i + 1) (by omega) q).1.bd
              refine ⟨by omega, by omega, h5 |> fun h => by omega⟩
            · have h6 := hfd.1
              rw [if_pos (show i = T.2.2.1 - 1 by omega)] at h6
              omega
            · rw [hst]
              exact hG9.keptc (fun x j h => u2_n (by omega))
        · refine r_aload_n dX8_lays_76 rfl ?_
          refine r_iload dX8_lays_77 rfl ?_
          refine q_callVF lk_X8_128 dX8_lays_79 (m_letterAt I1 R hRO g7 hWr hvl k (by omega)) (by decide) sf_290 rfl rfl (Nat.le_of_ble_eq_true rfl) (by decide) ?_
          have hck := hok k (by omega) (by omega)
          unfold okc at hck
          refine r_bipush dX8_lays_82 (by decide) ?_
          refine r_icmpne (tgt := 136) dX8_lays_84 (by decide) (by omega) (by omega) (fun h84 => ?_) (fun h84 => ?_)
          · refine r_iinc dX8_lays_136 rfl (by decide) ?_
            dsimp only [lset]
            refine r_goto (tgt := 58) dX8_lays_139 (by decide) ?_
            have hin1 : i < T.2.2.1 := by
              by_cases q : i < T.2.2.1
              · exact q
              · have := g4 (by omega)
                omega
            have hfk := g3 hin1
            have hfd := hO.2.2 i (by omega) hin1
            have hkt : k ≠ (fs (i + 1) - 1) := fun e => by
              have h6 := hfd.1
              by_cases q : i = T.2.2.1 - 1
              · rw [if_pos q] at h6
                omega
              · rw [if_neg q, ← e] at h6
                exact h84 h6
            exact ih i fr (k + 1) I1 (by omega) (by omega) (fun _ => ⟨hfk.1, by omega, by omega⟩) (fun q => by omega) g5 g6 g7 g8
          · have hin1 : i < T.2.2.1 := by
              by_cases q : i < T.2.2.1
              · exact q
              · have := g4 (by omega)
                omega
            have hf := hO.fp (f := i) (by omega) hin1
            have hfd := hO.2.2 i (by omega) hin1
            have hfd21 := hfd.2.1
            have hfk := g3 hin1
            have hkto : k = (fs (i + 1) - 1) := by
              first
                | omega
                | (by_cases q : k = (fs (i + 1) - 1)
                   · exact q
                   · exact absurd (by omega) (hfd.2.2.1 k (by omega) (by omega)))
            rw [hkto, hfk.1]
            have hic : ((i.toNat : Nat) : Int) = i := by omega
            have hin := hinv i.toNat (by omega)
            have hst : sFs W a.1.1.2.1 y.2.1 y.2.2 T (i + 1).toNat (S0 y.1) = sFd W a.1.1.2.1 y.2.1 y.2.2 T i (sFs W a.1.1.2.1 y.2.1 y.2.2 T i.toNat (S0 y.1)) := by
              rw [show (i + 1).toNat = i.toNat + 1 by omega]
              show sFd W a.1.1.2.1 y.2.1 y.2.2 T ((i.toNat : Nat) : Int) _ = _
              rw [hic]
            have hHr : 0 ≤ y.2.1 ∧ y.2.1 < W := ⟨hyH.1, by omega⟩
            refine r_aload_n dX8_lays_87 rfl ?_
            refine q_getI fl_X8_125 dX8_lays_88 sf_290 ?_
            rw [g6]
            refine r_ifne (tgt := 114) dX8_lays_91 (by decide) (by omega) (fun h91 => ?_) (fun h91 => ?_)
            · refine r_aload_n dX8_lays_114 rfl ?_
              refine r_iload_n dX8_lays_115 rfl ?_
              refine r_iload dX8_lays_116 rfl ?_
              have hin2 : Inv W (sFs W a.1.1.2.1 y.2.1 y.2.2 T i.toNat (S0 y.1)) (fs i - 1) (fs i - 1) := by
                rcases hin with h | h
                · omega
                · rw [hic] at h
                  exact h.2
              have hfdb := hfd.2.2.2
              refine q_callVW lk_X8_178 dX8_lays_118 (m_laysField I1 R hRO g7 hWr hvl hok hHr i g6 (by omega) g5 hW2 hwy (fs i) (fs (i + 1) - 1) (fF T.2.2.2.2.2.2 i) (T.2.2.2.2.2.2 i) hf (by omega) (by omega) hin2 (by omega)) (by decide) sf_290 rfl rfl (Nat.le_of_ble_eq_true rfl) (by decide) (fun I9 hI9 => ?_)
              have hG9 : MG I9 W v (sFd W a.1.1.2.1 y.2.1 y.2.2 T i (sFs W a.1.1.2.1 y.2.1 y.2.2 T i.toNat (S0 y.1))) (i + 1) := by
                unfold sFd
                rw [if_neg (by omega)]
                exact hI9.1
              have hK9 : MK I9 I1 := hI9.2
              refine r_aload_n dX8_lays_121 rfl ?_
              refine r_dup dX8_lays_122 ?_
              refine q_getI fl_X8_125 dX8_lays_123 sf_290 ?_
              have h97 : I9 290 17 = i := (hK9 _ _ (by omega) (by omega)).trans g6
              rw [h97]
              refine r_iconst dX8_lays_126 ?_
              refine r_iadd dX8_lays_127 ?_
              refine q_putI fl_X8_125 dX8_lays_128 sf_290 ?_
              refine r_iload dX8_lays_131 rfl ?_
              refine r_iconst dX8_lays_133 ?_
              refine r_iadd dX8_lays_134 ?_
              refine r_istore_n dX8_lays_135 (by decide) ?_
              dsimp only [lset]
              refine r_iinc dX8_lays_136 rfl (by decide) ?_
              dsimp only [lset]
              refine r_goto (tgt := 58) dX8_lays_139 (by decide) ?_
              have hk9 : ∀ (x : Nat) (j : Int), ¬ (x = 290 ∧ (j = 12 ∨ j = 13 ∨ j = 17)) → ¬ (295 ≤ x ∧ x ≤ 297) → u2 I9 290 17 (i + 1) x j = I1 x j := fun x j h1 h2 => by rw [u2_n (by omega)]; exact hK9 x j (by omega) h2
              refine ih (i + 1) _ _ _ (by omega) (by omega) (fun q => ?_) (fun q => ?_) ?_ u2_s (g7.keptF hk9) (fun x j h1 h2 => by rw [hk9 x j (by omega) h2]; exact g8 x j h1 h2)
              · have h5 := (hO.fp (f := i + 1) (by omega) q).1.bd
                refine ⟨by omega, by omega, h5 |> fun h => by omega⟩
              · have h6 := hfd.1
                rw [if_pos (show i = T.2.2.1 - 1 by omega)] at h6
                omega
              · rw [hst]
                exact hG9.keptc (fun x j h => u2_n (by omega))
            · refine r_aload_n dX8_lays_94 rfl ?_
              refine r_bipush dX8_lays_95 (by decide) ?_
              refine r_bipush dX8_lays_97 (by decide) ?_
              refine r_bipush dX8_lays_99 (by decide) ?_
              have h0 : i = 0 := by omega
              have hS0 : (sFs W a.1.1.2.1 y.2.1 y.2.2 T i.toNat (S0 y.1)) = S0 y.1 := by
                rcases hin with h | h
                · exact h.2
                · omega
              have hab := hf.1.1
              have hbd := hf.1.bd
              refine q_callVW lk_X8_146 dX8_lays_101 (m_begins I1 R hRO i g6 (by omega) (-9) (-9) (-9)) (by decide) sf_290 rfl rfl (Nat.le_of_ble_eq_true rfl) (by decide) (fun I4 hI4 => ?_)
              have hG4 : MG I4 W v (sBeg i (sFs W a.1.1.2.1 y.2.1 y.2.2 T i.toNat (S0 y.1)) (-9) (-9) (-9)) (i + 1) := by
                rw [hI4]
                exact g5.beg (by omega)
              have hk4 : MK I4 I1 := fun x j h1 h2 => by
                rw [hI4]
                exact mbI_n (by omega)
              have hi0 : Inv W (sBeg i (sFs W a.1.1.2.1 y.2.1 y.2.2 T i.toNat (S0 y.1)) (-9) (-9) (-9)) 0 0 := by
                rw [hS0]
                exact ⟨⟨Int.le_refl 0, Int.le_refl 0⟩, ⟨hyF.1, by show y.1 ≤ W; omega⟩, ⟨Int.le_refl 0, Int.le_refl 0⟩, fun i i1 i2 => by have i2 : i < 0 := i2; omega, fun i j i1 ij j2 => by have j2 : j < 0 := j2; omega⟩
              have hc9 : (sBeg i (sFs W a.1.1.2.1 y.2.1 y.2.2 T i.toNat (S0 y.1)) (-9) (-9) (-9)).2.1 = y.1 := by rw [hS0]; rfl
              have hSr : (sFs W a.1.1.2.1 y.2.1 y.2.2 T i.toNat (S0 y.1)).1 = 0 := by rw [hS0]; rfl
              refine r_aload_n dX8_lays_104 rfl ?_
              refine r_iload_n dX8_lays_105 rfl ?_
              refine r_iload dX8_lays_106 rfl ?_
              refine q_callVW lk_X8_150 dX8_lays_108 (m_flows I4 R hRO (g7.kept hk4) hWr hvl hok hHr i ((hk4 _ _ (by omega) (by omega)).trans g6) (by omega) (by omega) hG4 (fs i) (fs (i + 1) - 1) (fF T.2.2.2.2.2.2 i) (T.2.2.2.2.2.2 i) hf.1 (by omega) hi0 (by omega) (fun q => ⟨by have := (hf.1.2.2.1.1 q).1; have := hf.1.2.1; omega, by rw [hc9]; omega⟩) (by rw [sBeg_F0, hSr]; omega)) (by decide) sf_290 rfl rfl (Nat.le_of_ble_eq_true rfl) (by decide) (fun I9 hI9 => ?_)
              have hG9 : MG I9 W v (sFd W a.1.1.2.1 y.2.1 y.2.2 T i (sFs W a.1.1.2.1 y.2.1 y.2.2 T i.toNat (S0 y.1))) (i + 1) := by
                unfold sFd
                rw [if_pos h0]
                exact hI9.1
              have hK9 : MK I9 I1 := hI9.2.trans hk4
              refine r_goto (tgt := 121) dX8_lays_111 (by decide) ?_
              refine r_aload_n dX8_lays_121 rfl ?_
              refine r_dup dX8_lays_122 ?_
              refine q_getI fl_X8_125 dX8_lays_123 sf_290 ?_
              have h97 : I9 290 17 = i := (hK9 _ _ (by omega) (by omega)).trans g6
              rw [h97]
              refine r_iconst dX8_lays_126 ?_
              refine r_iadd dX8_lays_127 ?_
              refine q_putI fl_X8_125 dX8_lays_128 sf_290 ?_
              refine r_iload dX8_lays_131 rfl ?_
              refine r_iconst dX8_lays_133 ?_
              refine r_iadd dX8_lays_134 ?_
              refine r_istore_n dX8_lays_135 (by decide) ?_
              dsimp only [lset]
              refine r_iinc dX8_lays_136 rfl (by decide) ?_
              dsimp only [lset]
              refine r_goto (tgt := 58) dX8_lays_139 (by decide) ?_
              have hk9 : ∀ (x : Nat) (j : Int), ¬ (x = 290 ∧ (j = 12 ∨ j = 13 ∨ j = 17)) → ¬ (295 ≤ x ∧ x ≤ 297) → u2 I9 290 17 (i + 1) x j = I1 x j := fun x j h1 h2 => by rw [u2_n (by omega)]; exact hK9 x j (by omega) h2
              refine ih (i + 1) _ _ _ (by omega) (by omega) (fun q => ?_) (fun q => ?_) ?_ u2_s (g7.keptF hk9) (fun x j h1 h2 => by rw [hk9 x j (by omega) h2]; exact g8 x j h1 h2)
              · have h5 := (hO.fp (f := i + 1) (by omega) q).1.bd
                refine ⟨by omega, by omega, h5 |> fun h => by omega⟩
              · have h6 := hfd.1
                rw [if_pos (show i = T.2.2.1 - 1 by omega)] at h6
                omega
              · rw [hst]
                exact hG9.keptc (fun x j h => u2_n (by omega))
  refine CC_of (own := RX8) (ini := false) (by decide +kernel) rfl (fun h => absurd h (by decide)) (Nat.le_of_ble_eq_true rfl) ?_
  show WW cX8_lays RX8 5 (some .int) false 7 0 0 (PZ R (fun z I1 => z = (sFs W a.1.1.2.1 y.2.1 y.2.2 T T.2.2.1.toNat (S0 y.1)).1 + 1 ∧ MBar I1 W v (sFs W a.1.1.2.1 y.2.1 y.2.2 T T.2.2.1.toNat (S0 y.1)) (fun _ q => mkB y.2.2 (cntF y.2.2 80) q) ∧ (∀ q w : Int, 0 ≤ q → q < T.2.2.1 → 0 ≤ w → w < 6 → I1 297 (6 * q + w) = (sFs W a.1.1.2.1 y.2.1 y.2.2 T T.2.2.1.toNat (S0 y.1)).2.2.2.2 q w) ∧ I1 290 11 = T.2.2.1 ∧ I1 290 14 = W ∧ ∀ (x : Nat) (j : Int), ¬ (x = 290 ∧ 11 ≤ j ∧ j ≤ 17) → ¬ (295 ≤ x ∧ x ≤ 297) → I1 x j = I x j)) 0 0 0 [some (.inr (some 290)), some (.inl (p)), some (.inl (W)), none, none] [] (298, ShF, I, R)
  refine r_aload_n dX8_lays_0 rfl ?_
  refine r_iload_n dX8_lays_1 rfl ?_
  refine q_callSF lk_X8_93 dX8_lays_2 (m_own I R p) (by decide) rfl rfl (Nat.le_of_ble_eq_true rfl) (by decide) ?_
  refine q_putI fl_X8_107 dX8_lays_5 sf_290 ?_
  refine r_aload_n dX8_lays_8 rfl ?_
  refine r_aload_n dX8_lays_9 rfl ?_
  refine q_getR fl_X8_7 dX8_lays_10 sf_290 (ro_290_0 hRO) ?_
  refine r_aload_n dX8_lays_13 rfl ?_
  refine q_getI fl_X8_107 dX8_lays_14 sf_290 ?_
  rw [u2_s]
  refine q_iald dX8_lays_17 sf_291 (by omega) ?_
  rw [u2_n (Or.inl (by decide)), hb0]
  refine q_putI fl_X8_119 dX8_lays_18 sf_290 ?_
  refine r_aload_n dX8_lays_21 rfl ?_
  refine r_iload_n dX8_lays_22 rfl ?_
  refine q_putI fl_X8_110 dX8_lays_23 sf_290 ?_
  refine r_aload_n dX8_lays_26 rfl ?_
  refine r_iconst dX8_lays_27 ?_
  refine q_putI fl_X8_113 dX8_lays_28 sf_290 ?_
  refine r_aload_n dX8_lays_31 rfl ?_
  refine q_callVW lk_X8_116 dX8_lays_32 (m_opensLine _ R hRO (W := W) hWr (by rw [u2_n (Or.inr (by decide)), u2_s]) (by rw [u2_s]; omega)) (by decide) sf_290 rfl rfl (Nat.le_of_ble_eq_true rfl) (by decide) (fun I5 hI5 => ?_)
  rw [u2_s] at hI5
  obtain ⟨hc5, hk5⟩ := hI5
  refine r_aload_n dX8_lays_35 rfl ?_
  refine r_aload_n dX8_lays_36 rfl ?_
  refine r_aload_n dX8_lays_37 rfl ?_
  refine q_getI fl_X8_119 dX8_lays_38 sf_290 ?_
  rw [hk5 _ _ (by omega), u2_n (Or.inr (by decide)), u2_n (Or.inr (by decide)), u2_s]
  refine r_iconst dX8_lays_41 ?_
  refine q_callVF lk_X8_44 dX8_lays_42 (m_of I5 R hRO v.1 0 (by omega)) (by decide) sf_290 rfl rfl (Nat.le_of_ble_eq_true rfl) (by decide) ?_
  have hfi : I5 291 (3 + 27 * v.1 + 0) = y.1 := by rw [hk5 _ _ (by omega), u2_n (Or.inl (by decide)), u2_n (Or.inl (by decide)), u2_n (Or.inl (by decide)), u2_n (Or.inl (by decide))]; exact hMY.1
  rw [hfi]
  refine q_putI fl_X8_122 dX8_lays_45 sf_290 ?_
  refine r_aload_n dX8_lays_48 rfl ?_
  refine r_iconst dX8_lays_49 ?_
  refine q_putI fl_X8_125 dX8_lays_50 sf_290 ?_
  refine r_iconst dX8_lays_53 ?_
  refine r_istore_n dX8_lays_54 (by decide) ?_
  dsimp only [lset]
  refine r_iconst dX8_lays_55 ?_
  refine r_istore dX8_lays_56 (by decide) ?_
  dsimp only [lset]
  have hk8 : ∀ (x : Nat) (j : Int), ¬ (x = 290 ∧ 11 ≤ j ∧ j ≤ 17) → ¬ (295 ≤ x ∧ x ≤ 297) → u2 (u2 I5 290 13 y.1) 290 17 0 x j = I x j := fun x j h1 h2 => by rw [u2_n (by omega), u2_n (by omega), hk5 x j (by omega), u2_n (by omega), u2_n (by omega), u2_n (by omega), u2_n (by omega)]
  have e91 : u2 (u2 I5 290 13 y.1) 290 17 0 291 = I 291 := funext fun j => hk8 _ _ (by omega) (by omega)
  refine hloop (v.2.1 + 2).toNat 0 0 0 _ (by omega) (by omega) (fun q => ⟨hO.1.symm, by rw [hO.1]; omega, ?_⟩) (fun q => by omega) ⟨?_, ?_, fun q w q1 q2 _ _ => by omega, fun r q r1 r2 q1 q2 => ?_⟩ u2_s ⟨⟨?_, ?_, ?_⟩, by omega, hs3, by rw [e91]; exact hD1, by rw [e91]; exact hMY, by rw [e91]; exact hMP⟩ hk8
  · have := (hO.fp (f := 0) (by omega) q).1.bd
    rw [hO.1] at this
    exact this
  · rw [u2_n (Or.inr (by decide)), u2_n (Or.inr (by decide)), hk5 _ _ (by omega), u2_s]
    rfl
  · rw [u2_n (Or.inr (by decide)), u2_s]
    rfl
  · have r2 : r ≤ 0 := r2
    have hr0 : r = 0 := by omega
    have h := hc5 q q1 q2
    rw [Int.mul_zero, Int.zero_add] at h
    rw [u2_n (Or.inl (by decide)), u2_n (Or.inl (by decide)), u2_n (Or.inl (by decide)), u2_n (Or.inl (by decide)), hr0, Int.mul_zero, Int.zero_add]
    exact h
  · rw [u2_n (Or.inr (by decide)), u2_n (Or.inr (by decide)), hk5 _ _ (by omega), u2_n (Or.inr (by decide)), u2_s]
  · rw [u2_n (Or.inr (by decide)), u2_n (Or.inr (by decide)), hk5 _ _ (by omega), u2_n (Or.inr (by decide)), u2_n (Or.inr (by decide)), u2_s]
  · rw [u2_n (Or.inr (by decide)), u2_n (Or.inr (by decide)), hk5 _ _ (by omega), u2_n (Or.inr (by decide)), u2_n (Or.inr (by decide)), u2_n (Or.inr (by decide)), u2_s]
