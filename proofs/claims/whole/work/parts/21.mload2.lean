/-! stops that are read from a text: the other object, whole -/
set_option maxHeartbeats 4000000 in
set_option maxRecDepth 100000 in
theorem m_loadStops (I : Mem) (R : RMem) (hRO : RefOk R) (a : AS) (hM : MI I a) (s : Int) (hs : -2147483648 ≤ s ∧ s ≤ 2147483647) : CC 5 0 0 yX8_loadStops cX8_loadStops 5 (some .int) [.inr (some 290), .inl (s)] (298, ShF, I, R) (PM (aLoadStops a s) I R) := by
  have hA := hM.1
  have hW := hA.1
  have hW1 := hW.1
  have hW2 := hW.2.1
  have hW3 := hW.2.2.1
  have hS := hM.2.1
  have htl2 := hA.2.2.2.1
  have htxr := hA.2.2.2.2
  have hTx : TxM I a.2.2.2.2 (a.2.2.2.1 : Int) := ⟨hM.2.2.2.2.1, by omega, fun j h1 h2 => ⟨hM.2.2.2.2.2 j h1 h2, htxr j h1 h2⟩⟩
  have hnb := nx_bd (tx := a.2.2.2.2) (tl := (a.2.2.2.1 : Int)) htxr
  have hput : (0 ≤ s ∧ s ≤ 3) → ∀ (I1 : Mem) (m vi : Int), MI I1 (psh a) → (∀ (x : Nat) (j : Int), x < 290 → I1 x j = I x j) → I1 290 6 = m → (0 ≤ m ∧ m ≤ 8) → T3 (I1 294) m → (ldR a.2.2.2.2 (a.2.2.2.1 : Int) 8 (sk a.2.2.2.2 (a.2.2.2.1 : Int) 0) (fun _ => 0)) = (-1, tF (I1 294) m.toNat) → ∀ (n : Nat) (k : Int) (I3 : Mem), m < k + n → (0 ≤ k ∧ k ≤ m) → MY (fun j => I3 291 (3 + 27 * s + j)) ((a.1.2.1 s.toNat).1, (a.1.2.1 s.toNat).2.1, tF (I1 294) k.toNat) → (∀ (x : Nat) (q : Int), ¬ (x = 291 ∧ 3 + 27 * s + 2 ≤ q ∧ q < 3 + 27 * s + 27) → I3 x q = I1 x q) → WW cX8_loadStops RX8 5 (some .int) false 5 0 0 (PM (aLoadStops a s) I R) 0 0 73 [some (.inr (some 290)), some (.inl s), some (.inl vi), some (.inl k), some (.inl k)] [] (298, ShF, I3, R) := by
    intro hs3 I1 m vi hM1 hk1 hm hm8 h3 hld n
    induction n with
    | zero => intros; exfalso; omega
    | succ n ih =>
      intro k I3 g1 g2 g3 g4
      have hr := fun j : Int => g4 294 j (by omega)
      have hsvk := tF_sv h3 k.toNat (by omega)
      refine r_iload dX8_loadStops_73 rfl ?_
      refine r_aload_n dX8_loadStops_75 rfl ?_
      refine q_getI fl_X8_72 dX8_loadStops_76 sf_290 ?_
      rw [g4 _ _ (by omega), hm]
      refine r_icmpge (tgt := 135) dX8_loadStops_79 (by decide) (by omega) (by omega) (fun h79 => ?_) (fun h79 => ?_)
      · refine r_aload_n dX8_loadStops_135 rfl ?_
        refine r_iconst dX8_loadStops_136 ?_
        refine q_putI fl_X8_66 dX8_loadStops_137 sf_290 ?_
        refine r_iload_n dX8_loadStops_140 rfl ?_
        refine q_iretZ dX8_loadStops_141 rfl ?_
        have hkm : k = m := by omega
        rw [hkm] at g3 hsvk ⊢
        have e : aLoadStops a s = (cntF (tF (I1 294) m.toNat) 80, clr (wS (psh a) (setF a.1 s.toNat (tF (I1 294) m.toNat)))) := by
          unfold aLoadStops
          rw [if_pos hs3, hld, if_neg (fun h => h rfl)]
        rw [e]
        have hE := (hM1.sty (s := s) hs3 hsvk.1 (by rw [hsvk.2]; omega) g3 g4).clr
        exact ⟨by rw [hsvk.2]; omega, hE, fun x j h => by rw [u2_n (by omega), g4 _ _ (by omega)]; exact hk1 x j h⟩
      · have h3k := h3 k (by omega) (by omega)
        refine r_iload_n dX8_loadStops_82 rfl ?_
        refine r_aload_n dX8_loadStops_83 rfl ?_
        refine r_iload_n dX8_loadStops_84 rfl ?_
        refine r_aload_n dX8_loadStops_85 rfl ?_
        refine q_getR fl_X8_20 dX8_loadStops_86 sf_290 (ro_290_7 hRO) ?_
        refine r_iconst dX8_loadStops_89 ?_
        refine r_iload dX8_loadStops_90 rfl ?_
        refine r_imul dX8_loadStops_92 ?_
        refine q_iald dX8_loadStops_93 sf_294 (by omega) ?_
        rw [hr]
        refine r_aload_n dX8_loadStops_94 rfl ?_
        refine q_getR fl_X8_20 dX8_loadStops_95 sf_290 (ro_290_7 hRO) ?_
        refine r_iconst dX8_loadStops_98 ?_
        refine r_iload dX8_loadStops_99 rfl ?_
        refine r_imul dX8_loadStops_101 ?_
        refine r_iconst dX8_loadStops_102 ?_
        refine r_iadd dX8_loadStops_103 ?_
        refine q_iald dX8_loadStops_104 sf_294 (by omega) ?_
        rw [hr]
        refine r_aload_n dX8_loadStops_105 rfl ?_
        refine q_getR fl_X8_20 dX8_loadStops_106 sf_290 (ro_290_7 hRO) ?_
        refine r_iconst dX8_loadStops_109 ?_
        refine r_iload dX8_loadStops_110 rfl ?_
        refine r_imul dX8_loadStops_112 ?_
        refine r_iconst dX8_loadStops_113 ?_
        refine r_iadd dX8_loadStops_114 ?_
        refine q_iald dX8_loadStops_115 sf_294 (by omega) ?_
        rw [hr]
        refine q_callVZ lk_X8_62 dX8_loadStops_116 (m_puts I3 R hRO s hs3 _ g3 (by rw [hsvk.2]; omega) _ _ _ h3k.1 h3k.2.1 h3k.2.2.1 (fun _ => by rw [hsvk.2]; omega)) (by decide) sf_290 rfl rfl (Nat.le_of_ble_eq_true rfl) (by decide) (fun z I4 hz => ?_)
        have hzb := (cntF_bd (tF (I1 294) k.toNat) (I1 294 (3 * k) - 1).toNat)
        obtain ⟨hz1, hz2, hz3⟩ := hz
        have hz1 : z = cntF (tF (I1 294) k.toNat) (I1 294 (3 * k) - 1).toNat := hz1
        refine r_iflt (tgt := 126) dX8_loadStops_119 (by decide) (by omega) (fun h119 => ?_) (fun h119 => ?_)
        · exfalso
          rw [hz1] at h119
          omega
        · refine r_iconst dX8_loadStops_122 ?_
          refine r_goto (tgt := 127) dX8_loadStops_123 (by decide) ?_
          refine r_iadd dX8_loadStops_127 ?_
          refine r_istore_n dX8_loadStops_128 (by decide) ?_
          dsimp only [lset]
          refine r_iinc dX8_loadStops_129 rfl (by decide) ?_
          dsimp only [lset]
          refine r_goto (tgt := 73) dX8_loadStops_132 (by decide) ?_
          refine ih _ _ (by omega) (by omega) ?_ (fun x q h => by rw [hz3 x q h]; exact g4 x q h)
          rw [tF_step g2.1]
          exact hz2
  have hloop : ∀ (n : Nat) (m is : Int) (I2 : Mem), ((is = 1 ∧ 9 < m + n) ∨ (is = 0 ∧ 0 < n)) → (0 ≤ m ∧ m ≤ 8) → T3 (I2 294) m → (∀ (x : Nat) (j : Int), x ≠ 294 → ¬ (x = 290 ∧ (j = 5 ∨ j = 6)) → I2 x j = I x j) → I2 290 6 = m → (0 ≤ I2 290 5 ∧ I2 290 5 ≤ (a.2.2.2.1 : Int)) → ((is = 1 ∧ (ldR a.2.2.2.2 (a.2.2.2.1 : Int) 8 (sk a.2.2.2.2 (a.2.2.2.1 : Int) 0) (fun _ => 0)) = ldR a.2.2.2.2 (a.2.2.2.1 : Int) (8 - m).toNat (sk a.2.2.2.2 (a.2.2.2.1 : Int) (I2 290 5)) (tF (I2 294) m.toNat)) ∨ (is = 0 ∧ (ldR a.2.2.2.2 (a.2.2.2.1 : Int) 8 (sk a.2.2.2.2 (a.2.2.2.1 : Int) 0) (fun _ => 0)).1 = I2 290 5)) → (0 ≤ s ∧ s ≤ 3) → WW cX8_loadStops RX8 5 (some .int) false 5 0 0 (PM (aLoadStops a s) I R) 0 0 21 [some (.inr (some 290)), some (.inl (s)), some (.inl (is)), none, none] [] (298, ShF, I2, R) := by
    intro n
    induction n with
    | zero => intros; exfalso; omega
    | succ n ih =>
      intro m is I2 g1 g2 g3 g4 g5 g6 g7 g8
      refine r_iload_n dX8_loadStops_21 rfl ?_
      have hT2 : TxM I2 a.2.2.2.2 (a.2.2.2.1 : Int) := hTx.kept (g4 _ _ (by decide) (by omega)) (fun j => g4 _ _ (by decide) (by omega))
      have hsx := sk_bd a.2.2.2.2 (a.2.2.2.1 : Int) (I2 290 5)
      have hx1 := hnb (sk a.2.2.2.2 (a.2.2.2.1 : Int) (I2 290 5))
      refine r_ifeq (tgt := 40) dX8_loadStops_22 (by decide) (by omega) (fun h22 => ?_) (fun h22 => ?_)
      · refine r_iload_n dX8_loadStops_40 rfl ?_
        refine r_ifne (tgt := 53) dX8_loadStops_41 (by decide) (by omega) (fun h41 => ?_) (fun h41 => ?_)
        · exfalso
          omega
        · refine r_sipush dX8_loadStops_44 (by decide) ?_
          refine r_aload_n dX8_loadStops_47 rfl ?_
          refine q_getI fl_X8_69 dX8_loadStops_48 sf_290 ?_
          refine r_isub dX8_loadStops_51 ?_
          refine q_iretZ dX8_loadStops_52 rfl ?_
          have hl : (ldR a.2.2.2.2 (a.2.2.2.1 : Int) 8 (sk a.2.2.2.2 (a.2.2.2.1 : Int) 0) (fun _ => 0)).1 = I2 290 5 := by
            rcases g7 with h | h
            · omega
            · exact h.2
          have e : aLoadStops a s = (-1000 - I2 290 5, a) := by
            unfold aLoadStops
            rw [if_pos g8, hl, if_pos (by omega)]
          rw [e]
          exact ⟨rfl, hM.scr (fun x j h => g4 x j (by omega) (by omega)), fun x j h => g4 x j (by omega) (by omega)⟩
      · refine r_aload_n dX8_loadStops_25 rfl ?_
        refine q_callVZ lk_X8_75 dX8_loadStops_26 (m_here I2 R hRO a.2.2.2.2 (a.2.2.2.1 : Int) hT2 g6) (by decide) sf_290 rfl rfl (Nat.le_of_ble_eq_true rfl) (by decide) (fun z1 I5 hz1 => ?_)
        obtain ⟨rfl, rfl⟩ := hz1
        refine r_iflt (tgt := 40) dX8_loadStops_29 (by decide) (by omega) (fun h29 => ?_) (fun h29 => ?_)
        · have hxl : ¬ (sk a.2.2.2.2 (a.2.2.2.1 : Int) (I2 290 5)) < (a.2.2.2.1 : Int) := fun h => by
            have h8 : nx a.2.2.2.2 (a.2.2.2.1 : Int) (sk a.2.2.2.2 (a.2.2.2.1 : Int) (I2 290 5)) = a.2.2.2.2 (sk a.2.2.2.2 (a.2.2.2.1 : Int) (I2 290 5)) := if_pos (by omega)
            have := htxr (sk a.2.2.2.2 (a.2.2.2.1 : Int) (I2 290 5)) (by omega) h
            omega
          refine r_iload_n dX8_loadStops_40 rfl ?_
          refine r_ifne (tgt := 53) dX8_loadStops_41 (by decide) (by omega) (fun h41 => ?_) (fun h41 => ?_)
          · refine r_aload_n dX8_loadStops_53 rfl ?_
            have hld : (ldR a.2.2.2.2 (a.2.2.2.1 : Int) 8 (sk a.2.2.2.2 (a.2.2.2.1 : Int) 0) (fun _ => 0)) = (-1, tF (I2 294) m.toNat) := by
              rcases g7 with h | h
              · rw [h.2]
                rcases (show (8 - m).toNat = 0 ∨ ∃ q, (8 - m).toNat = q + 1 from by
                  cases (8 - m).toNat with
                  | zero => exact Or.inl rfl
                  | succ q => exact Or.inr ⟨q, rfl⟩) with h | ⟨q, h⟩
                · rw [h]; exact if_neg hxl
                · rw [h]; exact if_neg hxl
              · omega
            have hM5 : MI (u2 I2 290 5 (sk a.2.2.2.2 (a.2.2.2.1 : Int) (I2 290 5))) a := hM.scr (fun x j h => by rw [u2_n (by omega)]; exact g4 x j (by omega) (by omega))
            refine q_callVW lk_X8_47 dX8_loadStops_54 (m_notes _ R hRO a hM5) (by decide) sf_290 rfl rfl (Nat.le_of_ble_eq_true rfl) (by decide) (fun I1 hnt => ?_)
            obtain ⟨hM1, hk1⟩ := hnt
            have hS1 : AtM (I1 291) a.1 := hM1.2.1
            have hYs1 := hS1.2.2.2.1 s (by omega) (by omega)
            have e94 : I1 294 = I2 294 := funext fun j => (hk1 _ _ (by decide) (by omega)).trans (u2_n (Or.inl (by decide)))
            have e96 : I1 290 6 = m := (hk1 _ _ (by decide) (by omega)).trans ((u2_n (Or.inr (by decide))).trans g5)
            refine r_aload_n dX8_loadStops_57 rfl ?_
            refine q_getR fl_X8_7 dX8_loadStops_58 sf_290 (ro_290_0 hRO) ?_
            refine r_iload_n dX8_loadStops_61 rfl ?_
            refine r_iconst dX8_loadStops_62 ?_
            refine q_callSF lk_X8_40 dX8_loadStops_63 (m_placeOf I1 R s 2) (by decide) rfl rfl (Nat.le_of_ble_eq_true rfl) (by decide) ?_
            refine r_iconst dX8_loadStops_66 ?_
            refine q_iast dX8_loadStops_67 sf_291 (by omega) ?_
            refine r_iconst dX8_loadStops_68 ?_
            refine r_istore_n dX8_loadStops_69 (by decide) ?_
            dsimp only [lset]
            refine r_iconst dX8_loadStops_70 ?_
            refine r_istore dX8_loadStops_71 (by decide) ?_
            dsimp only [lset]
            have hk0 : ∀ (x : Nat) (q : Int), ¬ (x = 291 ∧ q = 3 + 27 * s + 2) → u2 I1 291 (3 + 27 * s + 2) 0 x q = I1 x q := fun x q h => u2_n (by omega)
            have hfin : MI (u2 I1 291 (3 + 27 * s + 2) 0) (wS (psh a) (setF a.1 s.toNat (fun _ => 0))) := hM1.sty (s := s) g8 (fun p _ _ => by show (0 : Int) ≤ 0 ∧ (0 : Int) ≤ 20; omega) (by decide) ⟨(hk0 _ _ (by omega)).trans hYs1.1, (hk0 _ _ (by omega)).trans hYs1.2.1, u2_s, fun p hp => absurd rfl hp.2.2⟩ (fun x q h => hk0 x q (by omega))
            refine hput g8 I1 m _ hM1 (fun x j h => ?_) e96 g2 (by rw [e94]; exact g3) (by rw [e94]; exact hld) 9 0 _ (by omega) (by omega) ⟨(hk0 _ _ (by omega)).trans hYs1.1, (hk0 _ _ (by omega)).trans hYs1.2.1, u2_s, fun p hp => absurd rfl hp.2.2⟩ (fun x q h => hk0 x q (by omega))
            rw [hk1 x j (by omega) (by omega), u2_n (by omega)]
            exact g4 x j (by omega) (by omega)
          · exfalso
            omega
        · have hxl : (sk a.2.2.2.2 (a.2.2.2.1 : Int) (I2 290 5)) < (a.2.2.2.1 : Int) := by have := hx1.2.2 (by omega); omega
          have hT5 := hT2.at (sk a.2.2.2.2 (a.2.2.2.1 : Int) (I2 290 5))
          have hsksk : sk a.2.2.2.2 (a.2.2.2.1 : Int) (sk a.2.2.2.2 (a.2.2.2.1 : Int) (I2 290 5)) = (sk a.2.2.2.2 (a.2.2.2.1 : Int) (I2 290 5)) := sk_sk (by omega) (by omega)
          have e94 : ∀ v, u2 I2 290 5 v 294 = I2 294 := fun v => funext fun j => u2_n (Or.inl (by decide))
          refine r_aload_n dX8_loadStops_32 rfl ?_
          refine q_callVZ lk_X8_89 dX8_loadStops_33 (m_readsItem _ R hRO a.2.2.2.2 (a.2.2.2.1 : Int) hT5 (by rw [u2_s]; omega) m ((u2_n (Or.inr (by decide))).trans g5) g2 (by rw [e94]; exact g3) (by rw [u2_s, hsksk]; exact hxl)) (by decide) sf_290 rfl rfl (Nat.le_of_ble_eq_true rfl) (by decide) (fun z6 I6 hz6 => ?_)
          rw [u2_s, hsksk, e94] at hz6
          have hib := itemR_bd (tx := a.2.2.2.2) (tl := (a.2.2.2.1 : Int)) (f := tF (I2 294) m.toNat) htxr (x := (sk a.2.2.2.2 (a.2.2.2.1 : Int) (I2 290 5))) (by omega)
          refine r_istore_n dX8_loadStops_36 (by decide) ?_
          dsimp only [lset]
          refine r_goto (tgt := 21) dX8_loadStops_37 (by decide) ?_
          have hl8 : (ldR a.2.2.2.2 (a.2.2.2.1 : Int) 8 (sk a.2.2.2.2 (a.2.2.2.1 : Int) 0) (fun _ => 0)) = ldR a.2.2.2.2 (a.2.2.2.1 : Int) (8 - m).toNat (sk a.2.2.2.2 (a.2.2.2.1 : Int) (I2 290 5)) (tF (I2 294) m.toNat) := by
            rcases g7 with h | h
            · exact h.2
            · omega
          by_cases hm8 : m = 8
          · obtain ⟨rfl, rfl⟩ := hz6.1 hm8
            rw [u2_u2]
            refine ih m 0 (u2 I2 290 5 (sk a.2.2.2.2 (a.2.2.2.1 : Int) (I2 290 5))) (by omega) g2 (by rw [e94]; exact g3) (fun x j h1 h2 => by rw [u2_n (by omega)]; exact g4 x j h1 h2) (by rw [u2_n (Or.inr (by decide))]; exact g5) (by rw [u2_s]; omega) (Or.inr ⟨rfl, ?_⟩) g8
            have h0 : (8 - m).toNat = 0 := by omega
            have hl0 : ldR a.2.2.2.2 (a.2.2.2.1 : Int) 0 (sk a.2.2.2.2 (a.2.2.2.1 : Int) (I2 290 5)) (tF (I2 294) m.toNat) = ((sk a.2.2.2.2 (a.2.2.2.1 : Int) (I2 290 5)), tF (I2 294) m.toNat) := if_pos hxl
            rw [hl8, h0, hl0, u2_s]
          · have hst : ldR a.2.2.2.2 (a.2.2.2.1 : Int) (8 - m).toNat (sk a.2.2.2.2 (a.2.2.2.1 : Int) (I2 290 5)) (tF (I2 294) m.toNat) = if (itemR a.2.2.2.2 (a.2.2.2.1 : Int) (tF (I2 294) m.toNat) (sk a.2.2.2.2 (a.2.2.2.1 : Int) (I2 290 5))).1 = true then ldR a.2.2.2.2 (a.2.2.2.1 : Int) (8 - (m + 1)).toNat (sk a.2.2.2.2 (a.2.2.2.1 : Int) (itemR a.2.2.2.2 (a.2.2.2.1 : Int) (tF (I2 294) m.toNat) (sk a.2.2.2.2 (a.2.2.2.1 : Int) (I2 290 5))).2.1) (upF (tF (I2 294) m.toNat) (itemR a.2.2.2.2 (a.2.2.2.1 : Int) (tF (I2 294) m.toNat) (sk a.2.2.2.2 (a.2.2.2.1 : Int) (I2 290 5))).2.2.1 (itemR a.2.2.2.2 (a.2.2.2.1 : Int) (tF (I2 294) m.toNat) (sk a.2.2.2.2 (a.2.2.2.1 : Int) (I2 290 5))).2.2.2) else ((itemR a.2.2.2.2 (a.2.2.2.1 : Int) (tF (I2 294) m.toNat) (sk a.2.2.2.2 (a.2.2.2.1 : Int) (I2 290 5))).2.1, tF (I2 294) m.toNat) := by
              rw [show (8 - m).toNat = (8 - (m + 1)).toNat + 1 by omega]
              exact if_pos hxl
            have hz8 := hz6.2 hm8
            cases hb : (itemR a.2.2.2.2 (a.2.2.2.1 : Int) (tF (I2 294) m.toNat) (sk a.2.2.2.2 (a.2.2.2.1 : Int) (I2 290 5))).1 with
            | false =>
              obtain ⟨rfl, rfl⟩ := hz8.1 hb
              rw [hb, if_neg (by decide)] at hst
              rw [u2_u2]
              refine ih m 0 (u2 I2 290 5 (itemR a.2.2.2.2 (a.2.2.2.1 : Int) (tF (I2 294) m.toNat) (sk a.2.2.2.2 (a.2.2.2.1 : Int) (I2 290 5))).2.1) (by omega) g2 (by rw [e94]; exact g3) (fun x j h1 h2 => by rw [u2_n (by omega)]; exact g4 x j h1 h2) (by rw [u2_n (Or.inr (by decide))]; exact g5) (by rw [u2_s]; exact hib.1) (Or.inr ⟨rfl, ?_⟩) g8
              rw [hl8, hst, u2_s]
            | true =>
              obtain ⟨rfl, kd, ld, hkd, hldd, hv, rfl⟩ := hz8.2 hb
              rw [if_pos hb] at hst
              obtain ⟨hp1, hv1, hf0⟩ := hib.2 hb
              rw [u2_u2]
              generalize hA : (itemR a.2.2.2.2 (a.2.2.2.1 : Int) (tF (I2 294) m.toNat) (sk a.2.2.2.2 (a.2.2.2.1 : Int) (I2 290 5))).2.1 = A at *
              generalize hPg : (itemR a.2.2.2.2 (a.2.2.2.1 : Int) (tF (I2 294) m.toNat) (sk a.2.2.2.2 (a.2.2.2.1 : Int) (I2 290 5))).2.2.1 = P at *
              rw [hv] at hst
              have e1 : ∀ j : Int, j < 3 * m → u2 (u2 (u2 (u2 (u2 I2 290 5 A) 294 (3 * m) P) 294 (3 * m + 1) kd) 294 (3 * m + 2) ld) 290 6 (m + 1) 294 j = I2 294 j := fun j hj => by rw [u2_n (Or.inl (by decide)), u2_n (Or.inr (by omega)), u2_n (Or.inr (by omega)), u2_n (Or.inr (by omega)), u2_n (Or.inl (by decide))]
              have e2 : u2 (u2 (u2 (u2 (u2 I2 290 5 A) 294 (3 * m) P) 294 (3 * m + 1) kd) 294 (3 * m + 2) ld) 290 6 (m + 1) 294 (3 * m) = P := by rw [u2_n (Or.inl (by decide)), u2_n (Or.inr (by omega)), u2_n (Or.inr (by omega)), u2_s]
              have e3 : u2 (u2 (u2 (u2 (u2 I2 290 5 A) 294 (3 * m) P) 294 (3 * m + 1) kd) 294 (3 * m + 2) ld) 290 6 (m + 1) 294 (3 * m + 1) = kd := by rw [u2_n (Or.inl (by decide)), u2_n (Or.inr (by omega)), u2_s]
              have e4 : u2 (u2 (u2 (u2 (u2 I2 290 5 A) 294 (3 * m) P) 294 (3 * m + 1) kd) 294 (3 * m + 2) ld) 290 6 (m + 1) 294 (3 * m + 2) = ld := by rw [u2_n (Or.inl (by decide)), u2_s]
              have e5 : u2 (u2 (u2 (u2 (u2 I2 290 5 A) 294 (3 * m) P) 294 (3 * m + 1) kd) 294 (3 * m + 2) ld) 290 6 (m + 1) 290 5 = A := by rw [u2_n (Or.inr (by decide)), u2_n (Or.inl (by decide)), u2_n (Or.inl (by decide)), u2_n (Or.inl (by decide)), u2_s]
              have e6 : ∀ (x : Nat) (j : Int), x ≠ 294 → ¬ (x = 290 ∧ (j = 5 ∨ j = 6)) → u2 (u2 (u2 (u2 (u2 I2 290 5 A) 294 (3 * m) P) 294 (3 * m + 1) kd) 294 (3 * m + 2) ld) 290 6 (m + 1) x j = I2 x j := fun x j h1 h2 => by rw [u2_n (by omega), u2_n (Or.inl h1), u2_n (Or.inl h1), u2_n (Or.inl h1), u2_n (by omega)]
              have e7 : u2 (u2 (u2 (u2 (u2 I2 290 5 A) 294 (3 * m) P) 294 (3 * m + 1) kd) 294 (3 * m + 2) ld) 290 6 (m + 1) 290 6 = m + 1 := u2_s
              generalize u2 (u2 (u2 (u2 (u2 I2 290 5 A) 294 (3 * m) P) 294 (3 * m + 1) kd) 294 (3 * m + 2) ld) 290 6 (m + 1) = I9 at e1 e2 e3 e4 e5 e6 e7 ⊢
              have htc := tF_congr (y := I2 294) (y1 := I9 294) m.toNat (fun j _ h2 => e1 j (by omega))
              refine ih (m + 1) 1 I9 (by omega) (by omega) (fun k h1 h2 => ?_) (fun x j h1 h2 => (e6 x j h1 h2).trans (g4 x j h1 h2)) e7 (by rw [e5]; exact hib.1) (Or.inl ⟨rfl, ?_⟩) g8
              · by_cases hk : k = m
                · rw [hk, e2, e3, e4, htc]
                  exact ⟨hp1, hkd, hldd, hf0⟩
                · have h := g3 k h1 (by omega)
                  rw [e1 _ (by omega), e1 _ (by omega), e1 _ (by omega), tF_congr (y := I2 294) (y1 := I9 294) k.toNat (fun j _ h2 => e1 j (by omega))]
                  exact h
              · rw [hl8, hst, e5, tF_step g2.1, e2, e3, e4, htc]
  refine CC_of (own := RX8) (ini := false) (by decide +kernel) rfl (fun h => absurd h (by decide)) (Nat.le_of_ble_eq_true rfl) ?_
  show WW cX8_loadStops RX8 5 (some .int) false 5 0 0 (PM (aLoadStops a s) I R) 0 0 0 [some (.inr (some 290)), some (.inl (s)), none, none, none] [] (298, ShF, I, R)
  refine r_iload_n dX8_loadStops_0 rfl ?_
  refine q_callSF lk_X8_50 dX8_loadStops_1 (m_isStyle I R s hs) (by decide) rfl rfl (Nat.le_of_ble_eq_true rfl) (by decide) ?_
  refine q_ifneB (tgt := 9) dX8_loadStops_4 (by decide) (fun h4 => ?_) (fun h4 => ?_)
  · refine r_aload_n dX8_loadStops_9 rfl ?_
    refine r_iconst dX8_loadStops_10 ?_
    refine q_putI fl_X8_69 dX8_loadStops_11 sf_290 ?_
    refine r_aload_n dX8_loadStops_14 rfl ?_
    refine r_iconst dX8_loadStops_15 ?_
    refine q_putI fl_X8_72 dX8_loadStops_16 sf_290 ?_
    refine r_iconst dX8_loadStops_19 ?_
    refine r_istore_n dX8_loadStops_20 (by decide) ?_
    dsimp only [lset]
    refine hloop 10 0 1 _ (by omega) (by omega) (fun k h1 h2 => by omega) (fun x j h1 h2 => by rw [u2_n (by omega), u2_n (by omega)]) u2_s (by rw [u2_n (Or.inr (by decide)), u2_s]; omega) (Or.inl ⟨rfl, ?_⟩) (by omega)
    rw [u2_n (Or.inr (by decide)), u2_s]
    rfl
  · refine r_iconst dX8_loadStops_7 ?_
    refine q_iretZ dX8_loadStops_8 rfl ?_
    have e : aLoadStops a s = (-1, a) := by
      unfold aLoadStops
      rw [if_neg (by omega)]
    rw [e]
    exact ⟨rfl, hM, fun _ _ _ => rfl⟩
