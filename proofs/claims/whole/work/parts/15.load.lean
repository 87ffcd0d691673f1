/-! the class's reader of stops, whole -/
theorem iP_bd {tx : Int → Int} {tl s : Int} (h : 49 ≤ nx tx tl s ∧ nx tx tl s ≤ 57) : 1 ≤ iP tx tl s ∧ iP tx tl s ≤ 99 := by
  unfold iP
  split <;> omega
theorem iE_bd (tx : Int → Int) (tl s : Int) (hnb : ∀ x : Int, -1 ≤ nx tx tl x ∧ nx tx tl x ≤ 255 ∧ (nx tx tl x ≠ -1 → 0 ≤ x ∧ x < tl ∧ nx tx tl x = tx x)) (h : 49 ≤ nx tx tl s ∧ nx tx tl s ≤ 57) : s < iE tx tl s ∧ iE tx tl s ≤ tl := by
  have h1 := hnb s
  have h2 := hnb (s + 1)
  unfold iE
  split <;> omega
set_option maxHeartbeats 4000000 in
set_option maxRecDepth 100000 in
theorem c_readItem (I : Mem) (R : RMem) (tx : Int → Int) (tl : Int) (hr : RdAt I R tx tl) (hsv : SV (I 32)) (hat : 0 ≤ I 30 3 ∧ I 30 3 ≤ tl) : CC 5 0 0 yX4_readItem cX4_readItem 5 (some .boolean) [.inr (some 30)] (298, ShF, I, R) (PZ R (fun z I1 => ((itemR tx tl (I 32) (I 30 3)).1 = true → z = 1 ∧ I1 = u2 (u2 I 30 3 (itemR tx tl (I 32) (I 30 3)).2.1) 32 (itemR tx tl (I 32) (I 30 3)).2.2.1 (itemR tx tl (I 32) (I 30 3)).2.2.2) ∧ ((itemR tx tl (I 32) (I 30 3)).1 = false → z = 0 ∧ I1 = u2 I 30 3 (itemR tx tl (I 32) (I 30 3)).2.1))) := by
  have hRO := hr.1
  have hlen := hr.2.2.1
  have htl := hr.2.2.2.1
  have htx := hr.2.2.2.2
  have hnb := nx_bd (tx := tx) (tl := tl) (fun j h1 h2 => (htx j h1 h2).2)
  have hY : StyAt R 31 32 := ⟨sf_31, ro_31_2 hRO, sf_32⟩
  refine CC_of (own := RX4) (ini := false) (by decide +kernel) rfl (fun h => absurd h (by decide)) (Nat.le_of_ble_eq_true rfl) ?_
  show WW cX4_readItem RX4 5 (some .boolean) false 5 0 0 (PZ R (fun z I1 => ((itemR tx tl (I 32) (I 30 3)).1 = true → z = 1 ∧ I1 = u2 (u2 I 30 3 (itemR tx tl (I 32) (I 30 3)).2.1) 32 (itemR tx tl (I 32) (I 30 3)).2.2.1 (itemR tx tl (I 32) (I 30 3)).2.2.2) ∧ ((itemR tx tl (I 32) (I 30 3)).1 = false → z = 0 ∧ I1 = u2 I 30 3 (itemR tx tl (I 32) (I 30 3)).2.1))) 0 0 0 [some (.inr (some 30)), none, none, none, none] [] (298, ShF, I, R)
  refine r_aload_n dX4_readItem_0 rfl ?_
  have h1 := hnb (I 30 3)
  have hkb := kdO_bd (nx tx tl (I 30 3))
  have hs := sk_bd tx tl (I 30 3 + 1)
  refine q_callVF lk_X4_45 dX4_readItem_1 (c_next I R tx tl hr hat) (by decide) sf_30 rfl rfl (Nat.le_of_ble_eq_true rfl) (by decide) ?_
  refine q_callSF lk_X4_49 dX4_readItem_4 (c_kindOf I R (nx tx tl (I 30 3)) (by omega)) (by decide) rfl rfl (Nat.le_of_ble_eq_true rfl) (by decide) ?_
  refine r_istore_n dX4_readItem_7 (by decide) ?_
  dsimp only [lset]
  refine r_iload_n dX4_readItem_8 rfl ?_
  refine r_iconst dX4_readItem_9 ?_
  refine r_icmpne (tgt := 15) dX4_readItem_10 (by decide) (by omega) (by omega) (fun h10 => ?_) (fun h10 => ?_)
  · refine r_aload_n dX4_readItem_15 rfl ?_
    refine r_dup dX4_readItem_16 ?_
    refine q_getI fl_X4_32 dX4_readItem_17 sf_30 ?_
    refine r_iconst dX4_readItem_20 ?_
    refine r_iadd dX4_readItem_21 ?_
    refine q_putI fl_X4_32 dX4_readItem_22 sf_30 ?_
    refine r_aload_n dX4_readItem_25 rfl ?_
    refine q_callVW lk_X4_38 dX4_readItem_26 (c_skipSpaces _ R tx tl (hr.at (I 30 3 + 1)) (by rw [u2_s]; omega)) (by decide) sf_30 rfl rfl (Nat.le_of_ble_eq_true rfl) (by decide) (fun M1 hm => ?_)
    subst hm
    rw [u2_s, u2_u2]
    refine r_aload_n dX4_readItem_29 rfl ?_
    refine q_getI fl_X4_32 dX4_readItem_30 sf_30 ?_
    rw [u2_s]
    refine r_istore_n dX4_readItem_33 (by decide) ?_
    dsimp only [lset]
    refine r_aload_n dX4_readItem_34 rfl ?_
    refine q_callVZ lk_X4_53 dX4_readItem_35 (c_readPosition _ R tx tl (hr.at (sk tx tl (I 30 3 + 1))) (by rw [u2_s]; omega)) (by decide) sf_30 rfl rfl (Nat.le_of_ble_eq_true rfl) (by decide) (fun z M2 hz => ?_)
    rw [u2_s] at hz
    have hsb := hnb (sk tx tl (I 30 3 + 1))
    refine r_istore_n dX4_readItem_38 (by decide) ?_
    dsimp only [lset]
    refine r_iload_n dX4_readItem_39 rfl ?_
    have hzz : -1 ≤ z ∧ z ≤ 99 := by
      by_cases hg : (49 ≤ nx tx tl (sk tx tl (I 30 3 + 1)) ∧ nx tx tl (sk tx tl (I 30 3 + 1)) ≤ 57)
      · have := iP_bd hg
        have := (hz.2 hg).1
        omega
      · have := (hz.1 hg).1
        omega
    refine r_ifne (tgt := 45) dX4_readItem_40 (by decide) (by omega) (fun h40 => ?_) (fun h40 => ?_)
    · have hg : (49 ≤ nx tx tl (sk tx tl (I 30 3 + 1)) ∧ nx tx tl (sk tx tl (I 30 3 + 1)) ≤ 57) := by
        rcases Classical.em (49 ≤ nx tx tl (sk tx tl (I 30 3 + 1)) ∧ nx tx tl (sk tx tl (I 30 3 + 1)) ≤ 57) with hg | hg
        · exact hg
        · exact absurd (hz.1 hg).1 h40
      obtain ⟨hz1, hz2⟩ := hz.2 hg
      have hpb := iP_bd hg
      have heb := iE_bd tx tl (sk tx tl (I 30 3 + 1)) hnb hg
      rw [u2_u2] at hz2
      subst hz2
      refine r_iload_n dX4_readItem_45 rfl ?_
      refine r_bipush dX4_readItem_46 (by decide) ?_
      refine r_icmpgt (tgt := 62) dX4_readItem_48 (by decide) (by omega) (by omega) (fun h48 => ?_) (fun h48 => ?_)
      · refine r_aload_n dX4_readItem_62 rfl ?_
        refine r_iload_n dX4_readItem_63 rfl ?_
        refine q_putI fl_X4_32 dX4_readItem_64 sf_30 ?_
        rw [u2_u2]
        refine r_iconst dX4_readItem_67 ?_
        refine q_zretZ dX4_readItem_68 rfl (by decide) ?_
        have e : (itemR tx tl (I 32) (I 30 3)) = (false, (sk tx tl (I 30 3 + 1)), 0, 0) := by
          unfold itemR
          rw [if_neg h10, if_neg (fun q => q hg), if_pos (by rw [← hz1]; omega)]
        rw [e]
        exact ⟨fun h => Bool.noConfusion (show false = true from h), fun _ => ⟨rfl, rfl⟩⟩
      · refine r_aload_n dX4_readItem_51 rfl ?_
        refine q_getR fl_X4_12 dX4_readItem_52 sf_30 (ro_30_0 hRO) ?_
        refine r_iload_n dX4_readItem_55 rfl ?_
        refine q_callVF lk_X4_56 dX4_readItem_56 (c_hasStop _ R hY (by rw [show u2 I 30 3 (iE tx tl (sk tx tl (I 30 3 + 1))) 32 = I 32 from funext fun j => u2_n (Or.inl (by decide))]; exact hsv) z (by omega)) (by decide) sf_31 rfl rfl (Nat.le_of_ble_eq_true rfl) (by decide) ?_
        have hI32 : u2 I 30 3 (iE tx tl (sk tx tl (I 30 3 + 1))) 32 z = I 32 z := u2_n (Or.inl (by decide))
        rw [hI32]
        refine q_ifeqB (tgt := 69) dX4_readItem_59 (by decide) (fun h59 => ?_) (fun h59 => ?_)
        · refine r_aload_n dX4_readItem_69 rfl ?_
          refine q_callVW lk_X4_38 dX4_readItem_70 (c_skipSpaces _ R tx tl (hr.at (iE tx tl (sk tx tl (I 30 3 + 1)))) (by rw [u2_s]; omega)) (by decide) sf_30 rfl rfl (Nat.le_of_ble_eq_true rfl) (by decide) (fun M3 hm => ?_)
          subst hm
          rw [u2_s, u2_u2]
          have hqb := sk_bd tx tl (iE tx tl (sk tx tl (I 30 3 + 1)))
          have hqn := hnb (sk tx tl (iE tx tl (sk tx tl (I 30 3 + 1))))
          have hcond : ¬ (80 < iP tx tl (sk tx tl (I 30 3 + 1)) ∨ I 32 (iP tx tl (sk tx tl (I 30 3 + 1))) ≠ 0) := by rw [← hz1]; omega
          refine r_iload_n dX4_readItem_73 rfl ?_
          refine r_iconst dX4_readItem_74 ?_
          refine r_icmpne (tgt := 82) dX4_readItem_75 (by decide) (by omega) (by omega) (fun h75 => ?_) (fun h75 => ?_)
          · refine r_aload_n dX4_readItem_82 rfl ?_
            refine q_callVF lk_X4_45 dX4_readItem_83 (c_next _ R tx tl (hr.at (sk tx tl (iE tx tl (sk tx tl (I 30 3 + 1))))) (by rw [u2_s]; omega)) (by decide) sf_30 rfl rfl (Nat.le_of_ble_eq_true rfl) (by decide) ?_
            rw [u2_s]
            refine q_callSF lk_X4_60 dX4_readItem_86 (c_leaderOf _ R (nx tx tl (sk tx tl (iE tx tl (sk tx tl (I 30 3 + 1))))) (by omega)) (by decide) rfl rfl (Nat.le_of_ble_eq_true rfl) (by decide) ?_
            have hlb := ldO_bd (nx tx tl (sk tx tl (iE tx tl (sk tx tl (I 30 3 + 1)))))
            refine r_istore dX4_readItem_89 (by decide) ?_
            dsimp only [lset]
            refine r_iload dX4_readItem_91 rfl ?_
            refine r_ifeq (tgt := 110) dX4_readItem_93 (by decide) (by omega) (fun h93 => ?_) (fun h93 => ?_)
            · have hl0 : ldO (nx tx tl (sk tx tl (iE tx tl (sk tx tl (I 30 3 + 1))))) = 0 := h93
              rw [hl0]
              have hL : iL tx tl (kdO (nx tx tl (I 30 3))) (sk tx tl (iE tx tl (sk tx tl (I 30 3 + 1)))) = 0 := (if_neg h75).trans h93
              have hRr : iR tx tl (kdO (nx tx tl (I 30 3))) (sk tx tl (iE tx tl (sk tx tl (I 30 3 + 1)))) = (sk tx tl (iE tx tl (sk tx tl (I 30 3 + 1)))) := if_pos ((if_neg h75).trans h93)
              have hrb := hnb (sk tx tl (iE tx tl (sk tx tl (I 30 3 + 1))))
              refine r_aload_n dX4_readItem_110 rfl ?_
              refine q_callVF lk_X4_45 dX4_readItem_111 (c_next _ R tx tl (hr.at (sk tx tl (iE tx tl (sk tx tl (I 30 3 + 1))))) (by rw [u2_s]; omega)) (by decide) sf_30 rfl rfl (Nat.le_of_ble_eq_true rfl) (by decide) ?_
              rw [u2_s]
              refine r_bipush dX4_readItem_114 (by decide) ?_
              refine r_icmpeq (tgt := 121) dX4_readItem_116 (by decide) (by omega) (by omega) (fun h116 => ?_) (fun h116 => ?_)
              · refine r_aload_n dX4_readItem_121 rfl ?_
                refine r_dup dX4_readItem_122 ?_
                refine q_getI fl_X4_32 dX4_readItem_123 sf_30 ?_
                rw [u2_s]
                refine r_iconst dX4_readItem_126 ?_
                refine r_iadd dX4_readItem_127 ?_
                refine q_putI fl_X4_32 dX4_readItem_128 sf_30 ?_
                rw [u2_u2]
                refine r_aload_n dX4_readItem_131 rfl ?_
                refine q_getR fl_X4_12 dX4_readItem_132 sf_30 (ro_30_0 hRO) ?_
                refine r_iload_n dX4_readItem_135 rfl ?_
                refine r_iload_n dX4_readItem_136 rfl ?_
                refine r_iload dX4_readItem_137 rfl ?_
                refine q_callVW lk_X4_63 dX4_readItem_139 (c_putStop _ R hY z (kdO (nx tx tl (I 30 3))) 0 (by omega) (by omega) (by omega)) (by decide) sf_31 rfl rfl (Nat.le_of_ble_eq_true rfl) (by decide) (fun M5 hM5 => ?_)
                subst hM5
                refine r_iconst dX4_readItem_142 ?_
                refine q_zretZ dX4_readItem_143 rfl (by decide) ?_
                have e : (itemR tx tl (I 32) (I 30 3)) = (true, (sk tx tl (iE tx tl (sk tx tl (I 30 3 + 1)))) + 1, iP tx tl (sk tx tl (I 30 3 + 1)), 1 + (kdO (nx tx tl (I 30 3))) * 4 + 0) := by
                  unfold itemR
                  rw [if_neg h10, if_neg (fun q => q hg), if_neg hcond, hRr, if_neg (fun q => q h116), hL]
                rw [e]
                exact ⟨fun _ => ⟨rfl, by rw [hz1]⟩, fun h => Bool.noConfusion (show true = false from h)⟩
              · refine r_iconst dX4_readItem_119 ?_
                refine q_zretZ dX4_readItem_120 rfl (by decide) ?_
                have e : (itemR tx tl (I 32) (I 30 3)) = (false, (sk tx tl (iE tx tl (sk tx tl (I 30 3 + 1)))), 0, 0) := by
                  unfold itemR
                  rw [if_neg h10, if_neg (fun q => q hg), if_neg hcond, hRr, if_pos h116]
                rw [e]
                exact ⟨fun h => Bool.noConfusion (show false = true from h), fun _ => ⟨rfl, rfl⟩⟩
            · refine r_aload_n dX4_readItem_96 rfl ?_
              refine r_dup dX4_readItem_97 ?_
              refine q_getI fl_X4_32 dX4_readItem_98 sf_30 ?_
              rw [u2_s]
              refine r_iconst dX4_readItem_101 ?_
              refine r_iadd dX4_readItem_102 ?_
              refine q_putI fl_X4_32 dX4_readItem_103 sf_30 ?_
              rw [u2_u2]
              refine r_aload_n dX4_readItem_106 rfl ?_
              refine q_callVW lk_X4_38 dX4_readItem_107 (c_skipSpaces _ R tx tl (hr.at ((sk tx tl (iE tx tl (sk tx tl (I 30 3 + 1)))) + 1)) (by rw [u2_s]; omega)) (by decide) sf_30 rfl rfl (Nat.le_of_ble_eq_true rfl) (by decide) (fun M4 hm => ?_)
              subst hm
              rw [u2_s, u2_u2]
              have hq2 := sk_bd tx tl ((sk tx tl (iE tx tl (sk tx tl (I 30 3 + 1)))) + 1)
              have hL : iL tx tl (kdO (nx tx tl (I 30 3))) (sk tx tl (iE tx tl (sk tx tl (I 30 3 + 1)))) = (ldO (nx tx tl (sk tx tl (iE tx tl (sk tx tl (I 30 3 + 1)))))) := if_neg h75
              have hRr : iR tx tl (kdO (nx tx tl (I 30 3))) (sk tx tl (iE tx tl (sk tx tl (I 30 3 + 1)))) = (sk tx tl ((sk tx tl (iE tx tl (sk tx tl (I 30 3 + 1)))) + 1)) := if_neg (by rw [show iL tx tl (kdO (nx tx tl (I 30 3))) (sk tx tl (iE tx tl (sk tx tl (I 30 3 + 1)))) = (ldO (nx tx tl (sk tx tl (iE tx tl (sk tx tl (I 30 3 + 1)))))) from if_neg h75]; exact h93)
              have hrb := hnb (sk tx tl ((sk tx tl (iE tx tl (sk tx tl (I 30 3 + 1)))) + 1))
              refine r_aload_n dX4_readItem_110 rfl ?_
              refine q_callVF lk_X4_45 dX4_readItem_111 (c_next _ R tx tl (hr.at (sk tx tl ((sk tx tl (iE tx tl (sk tx tl (I 30 3 + 1)))) + 1))) (by rw [u2_s]; omega)) (by decide) sf_30 rfl rfl (Nat.le_of_ble_eq_true rfl) (by decide) ?_
              rw [u2_s]
              refine r_bipush dX4_readItem_114 (by decide) ?_
              refine r_icmpeq (tgt := 121) dX4_readItem_116 (by decide) (by omega) (by omega) (fun h116 => ?_) (fun h116 => ?_)
              · refine r_aload_n dX4_readItem_121 rfl ?_
                refine r_dup dX4_readItem_122 ?_
                refine q_getI fl_X4_32 dX4_readItem_123 sf_30 ?_
                rw [u2_s]
                refine r_iconst dX4_readItem_126 ?_
                refine r_iadd dX4_readItem_127 ?_
                refine q_putI fl_X4_32 dX4_readItem_128 sf_30 ?_
                rw [u2_u2]
                refine r_aload_n dX4_readItem_131 rfl ?_
                refine q_getR fl_X4_12 dX4_readItem_132 sf_30 (ro_30_0 hRO) ?_
                refine r_iload_n dX4_readItem_135 rfl ?_
                refine r_iload_n dX4_readItem_136 rfl ?_
                refine r_iload dX4_readItem_137 rfl ?_
                refine q_callVW lk_X4_63 dX4_readItem_139 (c_putStop _ R hY z (kdO (nx tx tl (I 30 3))) (ldO (nx tx tl (sk tx tl (iE tx tl (sk tx tl (I 30 3 + 1)))))) (by omega) (by omega) (by omega)) (by decide) sf_31 rfl rfl (Nat.le_of_ble_eq_true rfl) (by decide) (fun M5 hM5 => ?_)
                subst hM5
                refine r_iconst dX4_readItem_142 ?_
                refine q_zretZ dX4_readItem_143 rfl (by decide) ?_
                have e : (itemR tx tl (I 32) (I 30 3)) = (true, (sk tx tl ((sk tx tl (iE tx tl (sk tx tl (I 30 3 + 1)))) + 1)) + 1, iP tx tl (sk tx tl (I 30 3 + 1)), 1 + (kdO (nx tx tl (I 30 3))) * 4 + (ldO (nx tx tl (sk tx tl (iE tx tl (sk tx tl (I 30 3 + 1))))))) := by
                  unfold itemR
                  rw [if_neg h10, if_neg (fun q => q hg), if_neg hcond, hRr, if_neg (fun q => q h116), hL]
                rw [e]
                exact ⟨fun _ => ⟨rfl, by rw [hz1]⟩, fun h => Bool.noConfusion (show true = false from h)⟩
              · refine r_iconst dX4_readItem_119 ?_
                refine q_zretZ dX4_readItem_120 rfl (by decide) ?_
                have e : (itemR tx tl (I 32) (I 30 3)) = (false, (sk tx tl ((sk tx tl (iE tx tl (sk tx tl (I 30 3 + 1)))) + 1)), 0, 0) := by
                  unfold itemR
                  rw [if_neg h10, if_neg (fun q => q hg), if_neg hcond, hRr, if_pos h116]
                rw [e]
                exact ⟨fun h => Bool.noConfusion (show false = true from h), fun _ => ⟨rfl, rfl⟩⟩
          · refine r_iconst dX4_readItem_78 ?_
            refine r_goto (tgt := 89) dX4_readItem_79 (by decide) ?_
            refine r_istore dX4_readItem_89 (by decide) ?_
            dsimp only [lset]
            refine r_iload dX4_readItem_91 rfl ?_
            refine r_ifeq (tgt := 110) dX4_readItem_93 (by decide) (by decide) (fun _ => ?_) (fun h => absurd h (by decide))
            have hL : iL tx tl (kdO (nx tx tl (I 30 3))) (sk tx tl (iE tx tl (sk tx tl (I 30 3 + 1)))) = 0 := if_pos h75
            have hRr : iR tx tl (kdO (nx tx tl (I 30 3))) (sk tx tl (iE tx tl (sk tx tl (I 30 3 + 1)))) = (sk tx tl (iE tx tl (sk tx tl (I 30 3 + 1)))) := if_pos (if_pos h75)
            have hrb := hnb (sk tx tl (iE tx tl (sk tx tl (I 30 3 + 1))))
            refine r_aload_n dX4_readItem_110 rfl ?_
            refine q_callVF lk_X4_45 dX4_readItem_111 (c_next _ R tx tl (hr.at (sk tx tl (iE tx tl (sk tx tl (I 30 3 + 1))))) (by rw [u2_s]; omega)) (by decide) sf_30 rfl rfl (Nat.le_of_ble_eq_true rfl) (by decide) ?_
            rw [u2_s]
            refine r_bipush dX4_readItem_114 (by decide) ?_
            refine r_icmpeq (tgt := 121) dX4_readItem_116 (by decide) (by omega) (by omega) (fun h116 => ?_) (fun h116 => ?_)
            · refine r_aload_n dX4_readItem_121 rfl ?_
              refine r_dup dX4_readItem_122 ?_
              refine q_getI fl_X4_32 dX4_readItem_123 sf_30 ?_
              rw [u2_s]
              refine r_iconst dX4_readItem_126 ?_
              refine r_iadd dX4_readItem_127 ?_
              refine q_putI fl_X4_32 dX4_readItem_128 sf_30 ?_
              rw [u2_u2]
              refine r_aload_n dX4_readItem_131 rfl ?_
              refine q_getR fl_X4_12 dX4_readItem_132 sf_30 (ro_30_0 hRO) ?_
              refine r_iload_n dX4_readItem_135 rfl ?_
              refine r_iload_n dX4_readItem_136 rfl ?_
              refine r_iload dX4_readItem_137 rfl ?_
              refine q_callVW lk_X4_63 dX4_readItem_139 (c_putStop _ R hY z (kdO (nx tx tl (I 30 3))) 0 (by omega) (by omega) (by omega)) (by decide) sf_31 rfl rfl (Nat.le_of_ble_eq_true rfl) (by decide) (fun M5 hM5 => ?_)
              subst hM5
              refine r_iconst dX4_readItem_142 ?_
              refine q_zretZ dX4_readItem_143 rfl (by decide) ?_
              have e : (itemR tx tl (I 32) (I 30 3)) = (true, (sk tx tl (iE tx tl (sk tx tl (I 30 3 + 1)))) + 1, iP tx tl (sk tx tl (I 30 3 + 1)), 1 + (kdO (nx tx tl (I 30 3))) * 4 + 0) := by
                unfold itemR
                rw [if_neg h10, if_neg (fun q => q hg), if_neg hcond, hRr, if_neg (fun q => q h116), hL]
              rw [e]
              exact ⟨fun _ => ⟨rfl, by rw [hz1]⟩, fun h => Bool.noConfusion (show true = false from h)⟩
            · refine r_iconst dX4_readItem_119 ?_
              refine q_zretZ dX4_readItem_120 rfl (by decide) ?_
              have e : (itemR tx tl (I 32) (I 30 3)) = (false, (sk tx tl (iE tx tl (sk tx tl (I 30 3 + 1)))), 0, 0) := by
                unfold itemR
                rw [if_neg h10, if_neg (fun q => q hg), if_neg hcond, hRr, if_pos h116]
              rw [e]
              exact ⟨fun h => Bool.noConfusion (show false = true from h), fun _ => ⟨rfl, rfl⟩⟩
        · refine r_aload_n dX4_readItem_62 rfl ?_
          refine r_iload_n dX4_readItem_63 rfl ?_
          refine q_putI fl_X4_32 dX4_readItem_64 sf_30 ?_
          rw [u2_u2]
          refine r_iconst dX4_readItem_67 ?_
          refine q_zretZ dX4_readItem_68 rfl (by decide) ?_
          have e : (itemR tx tl (I 32) (I 30 3)) = (false, (sk tx tl (I 30 3 + 1)), 0, 0) := by
            unfold itemR
            rw [if_neg h10, if_neg (fun q => q hg), if_pos (by rw [← hz1]; omega)]
          rw [e]
          exact ⟨fun h => Bool.noConfusion (show false = true from h), fun _ => ⟨rfl, rfl⟩⟩
    · have hg : ¬ (49 ≤ nx tx tl (sk tx tl (I 30 3 + 1)) ∧ nx tx tl (sk tx tl (I 30 3 + 1)) ≤ 57) := fun hg => by
        have := iP_bd hg
        have := (hz.2 hg).1
        omega
      have hz2 := (hz.1 hg).2
      subst hz2
      refine r_iconst dX4_readItem_43 ?_
      refine q_zretZ dX4_readItem_44 rfl (by decide) ?_
      have e : (itemR tx tl (I 32) (I 30 3)) = (false, (sk tx tl (I 30 3 + 1)), 0, 0) := by
        unfold itemR
        rw [if_neg h10, if_pos hg]
      rw [e]
      exact ⟨fun h => Bool.noConfusion (show false = true from h), fun _ => ⟨rfl, rfl⟩⟩
  · refine r_iconst dX4_readItem_13 ?_
    refine q_zretZ dX4_readItem_14 rfl (by decide) ?_
    have e : (itemR tx tl (I 32) (I 30 3)) = (false, I 30 3, 0, 0) := by
      unfold itemR
      rw [if_pos h10]
    rw [e]
    exact ⟨fun h => Bool.noConfusion (show false = true from h), fun _ => ⟨rfl, (u2_self I 30 3).symm⟩⟩
theorem itemR_congr {tx : Int → Int} {tl : Int} {f g : Int → Int} (h : ∀ p : Int, 1 ≤ p → p ≤ 80 → f p = g p) (x : Int) : itemR tx tl f x = itemR tx tl g x := by
  unfold itemR
  by_cases h1 : kdO (nx tx tl x) = -1
  · rw [if_pos h1, if_pos h1]
  · rw [if_neg h1, if_neg h1]
    by_cases h2 : 49 ≤ nx tx tl (sk tx tl (x + 1)) ∧ nx tx tl (sk tx tl (x + 1)) ≤ 57
    · have h22 : ¬ ¬ (49 ≤ nx tx tl (sk tx tl (x + 1)) ∧ nx tx tl (sk tx tl (x + 1)) ≤ 57) := fun q => q h2
      rw [if_neg h22, if_neg h22]
      have hb := iP_bd h2
      by_cases h3 : 80 < iP tx tl (sk tx tl (x + 1))
      · rw [if_pos (Or.inl h3), if_pos (Or.inl h3)]
      · rw [h (iP tx tl (sk tx tl (x + 1))) hb.1 (by omega)]
    · rw [if_pos h2, if_pos h2]
theorem itemR_bd {tx : Int → Int} {tl : Int} {f : Int → Int} (htx : ∀ j : Int, 0 ≤ j → j < tl → 0 ≤ tx j ∧ tx j ≤ 255) {x : Int} (hx : 0 ≤ x ∧ x ≤ tl) : (0 ≤ (itemR tx tl f x).2.1 ∧ (itemR tx tl f x).2.1 ≤ tl) ∧ ((itemR tx tl f x).1 = true → (1 ≤ (itemR tx tl f x).2.2.1 ∧ (itemR tx tl f x).2.2.1 ≤ 80) ∧ (1 ≤ (itemR tx tl f x).2.2.2 ∧ (itemR tx tl f x).2.2.2 ≤ 20) ∧ f (itemR tx tl f x).2.2.1 = 0) := by
  have hnb := nx_bd (tx := tx) (tl := tl) htx
  have h0 := hnb x
  have hk := kdO_bd (nx tx tl x)
  have hs := sk_bd tx tl (x + 1)
  unfold itemR
  by_cases h1 : kdO (nx tx tl x) = -1
  · rw [if_pos h1]
    exact ⟨hx, fun h => Bool.noConfusion (show false = true from h)⟩
  · rw [if_neg h1]
    by_cases h2 : 49 ≤ nx tx tl (sk tx tl (x + 1)) ∧ nx tx tl (sk tx tl (x + 1)) ≤ 57
    · rw [if_neg (fun q => q h2)]
      have hb := iP_bd h2
      have he := iE_bd tx tl _ hnb h2
      have hq := sk_bd tx tl (iE tx tl (sk tx tl (x + 1)))
      by_cases h3 : 80 < iP tx tl (sk tx tl (x + 1)) ∨ f (iP tx tl (sk tx tl (x + 1))) ≠ 0
      · rw [if_pos h3]
        exact ⟨by show 0 ≤ sk tx tl (x + 1) ∧ sk tx tl (x + 1) ≤ tl; omega, fun h => Bool.noConfusion (show false = true from h)⟩
      · rw [if_neg h3]
        have hn := hnb (sk tx tl (iE tx tl (sk tx tl (x + 1))))
        have hl := ldO_bd (nx tx tl (sk tx tl (iE tx tl (sk tx tl (x + 1)))))
        have hL : 0 ≤ iL tx tl (kdO (nx tx tl x)) (sk tx tl (iE tx tl (sk tx tl (x + 1)))) ∧ iL tx tl (kdO (nx tx tl x)) (sk tx tl (iE tx tl (sk tx tl (x + 1)))) ≤ 3 := by
          unfold iL
          split <;> omega
        have hR : 0 ≤ iR tx tl (kdO (nx tx tl x)) (sk tx tl (iE tx tl (sk tx tl (x + 1)))) ∧ iR tx tl (kdO (nx tx tl x)) (sk tx tl (iE tx tl (sk tx tl (x + 1)))) ≤ tl := by
          have h7 := sk_bd tx tl (sk tx tl (iE tx tl (sk tx tl (x + 1))) + 1)
          unfold iR
          by_cases h8 : iL tx tl (kdO (nx tx tl x)) (sk tx tl (iE tx tl (sk tx tl (x + 1)))) = 0
          · rw [if_pos h8]
            omega
          · rw [if_neg h8]
            have h9 : ldO (nx tx tl (sk tx tl (iE tx tl (sk tx tl (x + 1))))) ≠ 0 := by
              intro q
              apply h8
              unfold iL
              split
              · rfl
              · exact q
            omega
        have hr := hnb (iR tx tl (kdO (nx tx tl x)) (sk tx tl (iE tx tl (sk tx tl (x + 1)))))
        by_cases h4 : nx tx tl (iR tx tl (kdO (nx tx tl x)) (sk tx tl (iE tx tl (sk tx tl (x + 1))))) ≠ 59
        · rw [if_pos h4]
          exact ⟨hR, fun h => Bool.noConfusion (show false = true from h)⟩
        · rw [if_neg h4]
          refine ⟨?_, fun _ => ⟨?_, ?_, ?_⟩⟩
          · show 0 ≤ iR tx tl _ _ + 1 ∧ iR tx tl _ _ + 1 ≤ tl
            omega
          · show 1 ≤ iP tx tl _ ∧ iP tx tl _ ≤ 80
            omega
          · show 1 ≤ 1 + kdO (nx tx tl x) * 4 + iL tx tl _ _ ∧ 1 + kdO (nx tx tl x) * 4 + iL tx tl _ _ ≤ 20
            omega
          · show f (iP tx tl _) = 0
            exact Decidable.not_not.mp (fun q => h3 (Or.inr q))
    · rw [if_pos h2]
      exact ⟨by show 0 ≤ sk tx tl (x + 1) ∧ sk tx tl (x + 1) ≤ tl; omega, fun h => Bool.noConfusion (show false = true from h)⟩
theorem ldR_congr {tx : Int → Int} {tl : Int} : ∀ (n : Nat) (x : Int) (f g : Int → Int), (∀ p : Int, 1 ≤ p → p ≤ 80 → f p = g p) → (ldR tx tl n x f).1 = (ldR tx tl n x g).1 ∧ ∀ p : Int, 1 ≤ p → p ≤ 80 → (ldR tx tl n x f).2 p = (ldR tx tl n x g).2 p
  | 0, x, f, g, h => by
    show (if x < tl then (x, f) else (-1, f)).1 = (if x < tl then (x, g) else (-1, g)).1 ∧ ∀ p : Int, 1 ≤ p → p ≤ 80 → (if x < tl then (x, f) else (-1, f)).2 p = (if x < tl then (x, g) else (-1, g)).2 p
    by_cases hx : x < tl
    · rw [if_pos hx, if_pos hx]; exact ⟨rfl, h⟩
    · rw [if_neg hx, if_neg hx]; exact ⟨rfl, h⟩
  | n + 1, x, f, g, h => by
    unfold ldR
    by_cases hx : x < tl
    · rw [if_pos hx, if_pos hx, itemR_congr h x]
      by_cases hb : (itemR tx tl g x).1 = true
      · rw [if_pos hb, if_pos hb]
        refine ldR_congr n _ _ _ (fun p h1 h2 => ?_)
        unfold upF
        by_cases hp : p = (itemR tx tl g x).2.2.1
        · rw [if_pos hp, if_pos hp]
        · rw [if_neg hp, if_neg hp]; exact h p h1 h2
      · rw [if_neg hb, if_neg hb]; exact ⟨rfl, h⟩
    · rw [if_neg hx, if_neg hx]; exact ⟨rfl, h⟩
set_option maxHeartbeats 4000000 in
set_option maxRecDepth 100000 in
theorem c_readStops (I : Mem) (R : RMem) (tx : Int → Int) (tl : Int) (hRO0 : RefOk R) (htl : 0 ≤ tl ∧ tl ≤ 100) (htx : ∀ j : Int, 0 ≤ j → j < tl → I 29 j = tx j ∧ 0 ≤ tx j ∧ tx j ≤ 255) : CC 6 0 0 yX4_readStops cX4_readStops 4 (some .int) [.inr (some 30), .inr (some 29), .inl (tl)] (298, ShF, I, R) (PZR (fun z I1 R1 => R1 = (u2 R 30 1 (some 29)) ∧ z = (ldR tx tl 8 (sk tx tl 0) (fun _ => 0)).1 ∧ (-1 ≤ z ∧ z ≤ 100) ∧ (∀ p : Int, 1 ≤ p → p ≤ 80 → I1 32 p = (ldR tx tl 8 (sk tx tl 0) (fun _ => 0)).2 p) ∧ SV (I1 32) ∧ ∀ (x : Nat) (j : Int), x ≠ 30 → x ≠ 32 → I1 x j = I x j)) := by
  have hRO : RefOk (u2 R 30 1 (some 29)) := hRO0.kept (fun x j _ _ h3 => u2_n (by omega))
  have hY : StyAt (u2 R 30 1 (some 29)) 31 32 := ⟨sf_31, ro_31_2 hRO, sf_32⟩
  have hloop : ∀ (n : Nat) (i : Int) (I3 : Mem), 8 < i + n → (0 ≤ i ∧ i ≤ 8) → RdAt I3 (u2 R 30 1 (some 29)) tx tl → SV (I3 32) → (0 ≤ I3 30 3 ∧ I3 30 3 ≤ tl) → (∀ (x : Nat) (j : Int), x ≠ 30 → x ≠ 32 → I3 x j = I x j) → ((ldR tx tl 8 (sk tx tl 0) (fun _ => 0)).1 = (ldR tx tl (8 - i).toNat (I3 30 3) (I3 32)).1 ∧ ∀ p : Int, 1 ≤ p → p ≤ 80 → (ldR tx tl (8 - i).toNat (I3 30 3) (I3 32)).2 p = (ldR tx tl 8 (sk tx tl 0) (fun _ => 0)).2 p) → WW cX4_readStops RX4 4 (some .int) false 6 0 0 (PZR (fun z I1 R1 => R1 = (u2 R 30 1 (some 29)) ∧ z = (ldR tx tl 8 (sk tx tl 0) (fun _ => 0)).1 ∧ (-1 ≤ z ∧ z ≤ 100) ∧ (∀ p : Int, 1 ≤ p → p ≤ 80 → I1 32 p = (ldR tx tl 8 (sk tx tl 0) (fun _ => 0)).2 p) ∧ SV (I1 32) ∧ ∀ (x : Nat) (j : Int), x ≠ 30 → x ≠ 32 → I1 x j = I x j)) 0 0 33 [some (.inr (some 30)), some (.inr (some 29)), some (.inl (tl)), some (.inl (i))] [] (298, ShF, I3, (u2 R 30 1 (some 29))) := by
    intro n
    induction n with
    | zero => intros; exfalso; omega
    | succ n ih =>
      intro i I3 g1 g2 g3 g4 g5 g6 g7
      refine r_iload_n dX4_readStops_33 rfl ?_
      refine r_bipush dX4_readStops_34 (by decide) ?_
      refine r_icmpgt (tgt := 78) dX4_readStops_36 (by decide) (by omega) (by omega) (fun h36 => ?_) (fun h36 => ?_)
      · refine r_iconst dX4_readStops_78 ?_
        refine q_iretZR dX4_readStops_79 rfl ?_
        first
          | (exfalso; omega)
          | (have hl0 : ldR tx tl (8 - i).toNat (I3 30 3) (I3 32) = (-1, I3 32) := by
               rcases (show (8 - i).toNat = 0 ∨ ∃ q, (8 - i).toNat = q + 1 from by
                 cases (8 - i).toNat with
                 | zero => exact Or.inl rfl
                 | succ q => exact Or.inr ⟨q, rfl⟩) with h | ⟨q, h⟩
               · rw [h]; exact if_neg (by omega)
               · rw [h]; exact if_neg (by omega)
             rw [hl0] at g7
             exact ⟨rfl, g7.1.symm, by omega, g7.2, g4, g6⟩)
      · refine r_aload_n dX4_readStops_39 rfl ?_
        refine q_getI fl_X4_32 dX4_readStops_40 sf_30 ?_
        refine r_aload_n dX4_readStops_43 rfl ?_
        refine q_getI fl_X4_28 dX4_readStops_44 sf_30 ?_
        rw [g3.2.2.1]
        refine r_icmpge (tgt := 78) dX4_readStops_47 (by decide) (by omega) (by omega) (fun h47 => ?_) (fun h47 => ?_)
        · refine r_iconst dX4_readStops_78 ?_
          refine q_iretZR dX4_readStops_79 rfl ?_
          first
            | (exfalso; omega)
            | (have hl0 : ldR tx tl (8 - i).toNat (I3 30 3) (I3 32) = (-1, I3 32) := by
                 rcases (show (8 - i).toNat = 0 ∨ ∃ q, (8 - i).toNat = q + 1 from by
                   cases (8 - i).toNat with
                   | zero => exact Or.inl rfl
                   | succ q => exact Or.inr ⟨q, rfl⟩) with h | ⟨q, h⟩
                 · rw [h]; exact if_neg (by omega)
                 · rw [h]; exact if_neg (by omega)
               rw [hl0] at g7
               exact ⟨rfl, g7.1.symm, by omega, g7.2, g4, g6⟩)
        · refine r_iload_n dX4_readStops_50 rfl ?_
          refine r_bipush dX4_readStops_51 (by decide) ?_
          refine r_icmpeq (tgt := 63) dX4_readStops_53 (by decide) (by omega) (by omega) (fun h53 => ?_) (fun h53 => ?_)
          · refine r_aload_n dX4_readStops_63 rfl ?_
            refine q_getI fl_X4_32 dX4_readStops_64 sf_30 ?_
            refine q_iretZR dX4_readStops_67 rfl ?_
            first
              | (refine ⟨rfl, ?_, by rw [u2_s]; omega, fun p h1 h2 => ?_, ?_, fun x j h1 h2 => ?_⟩
                 · rw [u2_s, g7.1, hst]
                 · rw [← g7.2 p h1 h2, hst, u2_n (Or.inl (by decide))]
                 · rw [show u2 I3 30 3 (itemR tx tl (I3 32) (I3 30 3)).2.1 32 = I3 32 from funext fun j => u2_n (Or.inl (by decide))]; exact g4
                 · rw [u2_n (Or.inl h1)]; exact g6 x j h1 h2)
              | (have h0 : (8 - i).toNat = 0 := by omega
                 have hl0 : ldR tx tl (8 - i).toNat (I3 30 3) (I3 32) = (I3 30 3, I3 32) := by rw [h0]; exact if_pos (by omega)
                 rw [hl0] at g7
                 exact ⟨rfl, g7.1.symm, by omega, g7.2, g4, g6⟩)
          · refine r_aload_n dX4_readStops_56 rfl ?_
            refine q_callVZ lk_X4_41 dX4_readStops_57 (c_readItem I3 (u2 R 30 1 (some 29)) tx tl g3 g4 g5) (by decide) sf_30 rfl rfl (Nat.le_of_ble_eq_true rfl) (by decide) (fun z M5 hz => ?_)
            have hib := itemR_bd (tx := tx) (tl := tl) (f := I3 32) (fun j h1 h2 => (htx j h1 h2).2) g5
            have hz01 : z = 0 ∨ z = 1 := by
              cases hb : (itemR tx tl (I3 32) (I3 30 3)).1 with
              | false => exact Or.inl (hz.2 hb).1
              | true => exact Or.inr (hz.1 hb).1
            have hst : ldR tx tl (8 - i).toNat (I3 30 3) (I3 32) = if (itemR tx tl (I3 32) (I3 30 3)).1 = true then ldR tx tl (8 - (i + 1)).toNat (sk tx tl (itemR tx tl (I3 32) (I3 30 3)).2.1) (upF (I3 32) (itemR tx tl (I3 32) (I3 30 3)).2.2.1 (itemR tx tl (I3 32) (I3 30 3)).2.2.2) else ((itemR tx tl (I3 32) (I3 30 3)).2.1, I3 32) := by
              rw [show (8 - i).toNat = (8 - (i + 1)).toNat + 1 by omega]
              exact if_pos (by omega)
            refine r_ifne (tgt := 68) dX4_readStops_60 (by decide) (by omega) (fun h60 => ?_) (fun h60 => ?_)
            · have hb : (itemR tx tl (I3 32) (I3 30 3)).1 = true := by
                cases hb : (itemR tx tl (I3 32) (I3 30 3)).1 with
                | false => exact absurd (hz.2 hb).1 (by omega)
                | true => rfl
              have hm := (hz.1 hb).2
              subst hm
              rw [if_pos hb] at hst
              obtain ⟨hp1, hv1, -⟩ := hib.2 hb
              have hrd : RdAt (u2 (u2 I3 30 3 (itemR tx tl (I3 32) (I3 30 3)).2.1) 32 (itemR tx tl (I3 32) (I3 30 3)).2.2.1 (itemR tx tl (I3 32) (I3 30 3)).2.2.2) (u2 R 30 1 (some 29)) tx tl := ⟨g3.1, g3.2.1, (u2_n (Or.inl (by decide))).trans ((u2_n (Or.inr (by decide))).trans g3.2.2.1), g3.2.2.2.1, fun j h1 h2 => ⟨(u2_n (Or.inl (by decide))).trans ((u2_n (Or.inl (by decide))).trans (g3.2.2.2.2 j h1 h2).1), (g3.2.2.2.2 j h1 h2).2⟩⟩
              have hat3 : u2 (u2 I3 30 3 (itemR tx tl (I3 32) (I3 30 3)).2.1) 32 (itemR tx tl (I3 32) (I3 30 3)).2.2.1 (itemR tx tl (I3 32) (I3 30 3)).2.2.2 30 3 = (itemR tx tl (I3 32) (I3 30 3)).2.1 := by rw [u2_n (Or.inl (by decide)), u2_s]
              have hskb := sk_bd tx tl (itemR tx tl (I3 32) (I3 30 3)).2.1
              refine r_aload_n dX4_readStops_68 rfl ?_
              refine q_callVW lk_X4_38 dX4_readStops_69 (c_skipSpaces _ (u2 R 30 1 (some 29)) tx tl hrd (by rw [hat3]; omega)) (by decide) sf_30 rfl rfl (Nat.le_of_ble_eq_true rfl) (by decide) (fun M6 hm6 => ?_)
              rw [hat3] at hm6
              subst hm6
              refine r_iinc dX4_readStops_72 rfl (by decide) ?_
              dsimp only [lset]
              refine r_goto (tgt := 33) dX4_readStops_75 (by decide) ?_
              refine ih _ _ (by omega) (by omega) (hrd.at _) ?_ (by rw [u2_s]; omega) (fun x j h1 h2 => by rw [u2_n (Or.inl h1), u2_n (Or.inl h2), u2_n (Or.inl h1)]; exact g6 x j h1 h2) ?_
              · intro p h1 h2
                rw [u2_n (Or.inl (by decide)), u2_at]
                by_cases hp : p = (itemR tx tl (I3 32) (I3 30 3)).2.2.1
                · rw [if_pos ⟨rfl, hp⟩]; omega
                · rw [if_neg (fun q => hp q.2), u2_n (Or.inl (by decide))]; exact g4 p h1 h2
              · have hc := ldR_congr (tx := tx) (tl := tl) (8 - (i + 1)).toNat (sk tx tl (itemR tx tl (I3 32) (I3 30 3)).2.1) (u2 (u2 (u2 I3 30 3 (itemR tx tl (I3 32) (I3 30 3)).2.1) 32 (itemR tx tl (I3 32) (I3 30 3)).2.2.1 (itemR tx tl (I3 32) (I3 30 3)).2.2.2) 30 3 (sk tx tl (itemR tx tl (I3 32) (I3 30 3)).2.1) 32) (upF (I3 32) (itemR tx tl (I3 32) (I3 30 3)).2.2.1 (itemR tx tl (I3 32) (I3 30 3)).2.2.2) (fun p h1 h2 => by
                  rw [u2_n (Or.inl (by decide)), u2_at]
                  unfold upF
                  by_cases hp : p = (itemR tx tl (I3 32) (I3 30 3)).2.2.1
                  · rw [if_pos ⟨rfl, hp⟩, if_pos hp]
                  · rw [if_neg (fun q => hp q.2), if_neg hp, u2_n (Or.inl (by decide))])
                rw [u2_s]
                exact ⟨by rw [g7.1, hst, hc.1], fun p h1 h2 => by rw [hc.2 p h1 h2, ← hst]; exact g7.2 p h1 h2⟩
            · have hb : (itemR tx tl (I3 32) (I3 30 3)).1 = false := by
                cases hb : (itemR tx tl (I3 32) (I3 30 3)).1 with
                | false => rfl
                | true => exact absurd (hz.1 hb).1 (by omega)
              have hm := (hz.2 hb).2
              subst hm
              rw [hb, if_neg (by decide)] at hst
              refine r_aload_n dX4_readStops_63 rfl ?_
              refine q_getI fl_X4_32 dX4_readStops_64 sf_30 ?_
              refine q_iretZR dX4_readStops_67 rfl ?_
              first
                | (refine ⟨rfl, ?_, by rw [u2_s]; omega, fun p h1 h2 => ?_, ?_, fun x j h1 h2 => ?_⟩
                   · rw [u2_s, g7.1, hst]
                   · rw [← g7.2 p h1 h2, hst, u2_n (Or.inl (by decide))]
                   · rw [show u2 I3 30 3 (itemR tx tl (I3 32) (I3 30 3)).2.1 32 = I3 32 from funext fun j => u2_n (Or.inl (by decide))]; exact g4
                   · rw [u2_n (Or.inl h1)]; exact g6 x j h1 h2)
                | (have h0 : (8 - i).toNat = 0 := by omega
                   have hl0 : ldR tx tl (8 - i).toNat (I3 30 3) (I3 32) = (I3 30 3, I3 32) := by rw [h0]; exact if_pos (by omega)
                   rw [hl0] at g7
                   exact ⟨rfl, g7.1.symm, by omega, g7.2, g4, g6⟩)
  refine CC_of (own := RX4) (ini := false) (by decide +kernel) rfl (fun h => absurd h (by decide)) (Nat.le_of_ble_eq_true rfl) ?_
  show WW cX4_readStops RX4 4 (some .int) false 6 0 0 (PZR (fun z I1 R1 => R1 = (u2 R 30 1 (some 29)) ∧ z = (ldR tx tl 8 (sk tx tl 0) (fun _ => 0)).1 ∧ (-1 ≤ z ∧ z ≤ 100) ∧ (∀ p : Int, 1 ≤ p → p ≤ 80 → I1 32 p = (ldR tx tl 8 (sk tx tl 0) (fun _ => 0)).2 p) ∧ SV (I1 32) ∧ ∀ (x : Nat) (j : Int), x ≠ 30 → x ≠ 32 → I1 x j = I x j)) 0 0 0 [some (.inr (some 30)), some (.inr (some 29)), some (.inl (tl)), none] [] (298, ShF, I, R)
  refine r_aload_n dX4_readStops_0 rfl ?_
  refine r_aload_n dX4_readStops_1 rfl ?_
  refine q_putR fl_X4_18 dX4_readStops_2 sf_30 (fun h => absurd h (by decide)) (Or.inr ⟨_, rfl⟩) ?_
  refine r_aload_n dX4_readStops_5 rfl ?_
  refine r_iload_n dX4_readStops_6 rfl ?_
  refine r_aload_n dX4_readStops_7 rfl ?_
  refine q_alen (t := 0) (by decide) dX4_readStops_8 sf_29 ?_
  refine q_mmin mx_X4_22 dX4_readStops_9 (by decide) (Nat.le_of_ble_eq_true rfl) (by omega) (by omega) (by decide) ?_
  rw [show (if ((100 : Nat) : Int) < tl then ((100 : Nat) : Int) else tl) = tl by split <;> omega]
  refine q_putI fl_X4_28 dX4_readStops_12 sf_30 ?_
  refine r_aload_n dX4_readStops_15 rfl ?_
  refine r_iconst dX4_readStops_16 ?_
  refine q_putI fl_X4_32 dX4_readStops_17 sf_30 ?_
  refine r_aload_n dX4_readStops_20 rfl ?_
  refine q_getR fl_X4_12 dX4_readStops_21 sf_30 (ro_30_0 hRO) ?_
  refine q_callVW lk_X4_35 dX4_readStops_24 (c_dropStops _ (u2 R 30 1 (some 29)) hY) (by decide) sf_31 rfl rfl (Nat.le_of_ble_eq_true rfl) (by decide) (fun I2 hI2 => ?_)
  have hI2k : ∀ (x : Nat) (j : Int), x ≠ 30 → x ≠ 32 → I2 x j = I x j := fun x j h1 h2 => by rw [hI2, if_neg (by omega), u2_n (Or.inl h1), u2_n (Or.inl h1)]
  have hI2a : I2 30 3 = 0 := by rw [hI2, if_neg (by omega), u2_s]
  have hrd : RdAt I2 (u2 R 30 1 (some 29)) tx tl := ⟨hRO, u2_s, by rw [hI2, if_neg (by omega), u2_n (Or.inr (by decide)), u2_s], htl, fun j h1 h2 => ⟨(hI2k _ _ (by decide) (by decide)).trans (htx j h1 h2).1, (htx j h1 h2).2⟩⟩
  have hskb := sk_bd tx tl 0
  have hz2 : ∀ p : Int, 1 ≤ p → p ≤ 80 → I2 32 p = 0 := fun p h1 h2 => by rw [hI2, if_pos (by omega)]
  refine r_aload_n dX4_readStops_27 rfl ?_
  refine q_callVW lk_X4_38 dX4_readStops_28 (c_skipSpaces I2 (u2 R 30 1 (some 29)) tx tl hrd (by omega)) (by decide) sf_30 rfl rfl (Nat.le_of_ble_eq_true rfl) (by decide) (fun M6 hm6 => ?_)
  rw [hI2a] at hm6
  subst hm6
  refine r_iconst dX4_readStops_31 ?_
  refine r_istore_n dX4_readStops_32 (by decide) ?_
  dsimp only [lset]
  have hc := ldR_congr (tx := tx) (tl := tl) 8 (sk tx tl 0) (fun _ => 0) (u2 I2 30 3 (sk tx tl 0) 32) (fun p h1 h2 => by rw [u2_n (Or.inl (by decide))]; exact (hz2 p h1 h2).symm)
  exact hloop 9 0 _ (by omega) (by omega) (hrd.at _) (fun p h1 h2 => by rw [u2_n (Or.inl (by decide)), hz2 p h1 h2]; omega) (by rw [u2_s]; omega) (fun x j h1 h2 => by rw [u2_n (Or.inl h1)]; exact hI2k x j h1 h2) (by rw [u2_s]; exact ⟨hc.1, fun p h1 h2 => (hc.2 p h1 h2).symm⟩)
theorem RInv.rd {R : RMem} {π sg : Nat → Nat} (h : RInv R π sg) (v : Option Nat) : RInv (u2 R 30 1 v) π sg := by
  have hb0 : stB 0 = 1 := rfl
  refine ⟨h.1.kept (fun x j _ _ h3 => u2_n (by omega)), h.2.1.kept (fun j => u2_n (Or.inl (by omega))), fun k h1 h2 => (h.2.2.1 k h1 h2).kept (fun j => ?_), ⟨fun j hj => ?_, h.2.2.2.2⟩⟩
  · have := stB_in h2
    exact u2_n (Or.inl (by omega))
  · rw [u2_n (Or.inl (by decide))]
    exact h.2.2.2.1 j hj
set_option maxHeartbeats 4000000 in
set_option maxRecDepth 100000 in
theorem k_loadStops (I : Mem) (R : RMem) (π sg : Nat → Nat) (a : AS) (hI : CI I R π sg a) (hA : AbsOk a) (s : Int) (hs : -2147483648 ≤ s ∧ s ≤ 2147483647) : CC 7 0 0 yX7_loadStops cX7_loadStops 4 (some .int) [.inr (some 0), .inl (s)] (298, ShF, I, R) (PC (aLoadStops a s) I) := by
  have hRO := hI.1.1
  have hcols : I 1 0 = a.1.1.1 := hI.2.1.1
  have hdist : I 1 1 = a.1.1.2.1 := hI.2.1.2.1
  have hcnt : I 1 2 = a.1.1.2.2 := hI.2.1.2.2.1
  have hW := hA.1
  have hW1 := hW.1
  have hW2 := hW.2.1
  have hW3 := hW.2.2.1
  refine CC_of (own := RX7) (ini := false) (by decide +kernel) rfl (fun h => absurd h (by decide)) (Nat.le_of_ble_eq_true rfl) ?_
  show WW cX7_loadStops RX7 4 (some .int) false 7 0 0 (PC (aLoadStops a s) I) 0 0 0 [some (.inr (some 0)), some (.inl (s)), none, none] [] (298, ShF, I, R)
  refine r_aload_n dX7_loadStops_0 rfl ?_
  refine r_iload_n dX7_loadStops_1 rfl ?_
  refine q_callVF lk_X7_52 dX7_loadStops_2 (c_isStyle I R s hs) (by decide) sf_0 rfl rfl (Nat.le_of_ble_eq_true rfl) (by decide) ?_
  refine q_ifneB (tgt := 10) dX7_loadStops_5 (by decide) (fun h5 => ?_) (fun h5 => ?_)
  · refine r_aload_n dX7_loadStops_10 rfl ?_
    refine q_getR fl_X7_27 dX7_loadStops_11 sf_0 (ro_0_5 hRO) ?_
    refine r_aload_n dX7_loadStops_14 rfl ?_
    refine q_getR fl_X7_20 dX7_loadStops_15 sf_0 (ro_0_3 hRO) ?_
    refine r_aload_n dX7_loadStops_18 rfl ?_
    refine q_getI fl_X7_86 dX7_loadStops_19 sf_0 ?_
    rw [hI.2.2.2.2.1]
    have htl2 := hA.2.2.2.1
    refine q_callVZR lk_X7_89 dX7_loadStops_22 (c_readStops I R a.2.2.2.2 a.2.2.2.1 hRO (by omega) (fun j h1 h2 => ⟨hI.2.2.2.2.2 j h1 h2, hA.2.2.2.2 j h1 h2⟩)) (by decide) sf_30 rfl rfl (Nat.le_of_ble_eq_true rfl) (by decide) (fun z I5 R5 hz => ?_)
    obtain ⟨rfl, hz1, hz2, hz3, hz4, hz5⟩ := hz
    have hI5 : CI I5 (u2 R 30 1 (some 29)) π sg a := by
      have h := hI.bl (I1 := I5) (fun x j h => hz5 x j (by omega) (by omega)) hA.2.1
      exact ⟨hI.1.rd _, h.2.1, h.2.2.1, h.2.2.2.1, h.2.2.2.2.1, h.2.2.2.2.2⟩
    have hRO5 := hI5.1.1
    refine r_istore_n dX7_loadStops_25 (by decide) ?_
    dsimp only [lset]
    refine r_iload_n dX7_loadStops_26 rfl ?_
    refine r_iconst dX7_loadStops_27 ?_
    refine r_icmpeq (tgt := 37) dX7_loadStops_28 (by decide) (by omega) (by omega) (fun h28 => ?_) (fun h28 => ?_)
    · refine r_aload_n dX7_loadStops_37 rfl ?_
      refine q_callVWR lk_X7_42 dX7_loadStops_38 (c_saveState I5 _ π sg a hI5 hA) (by decide) sf_0 rfl rfl (Nat.le_of_ble_eq_true rfl) (by decide) (fun I1 R1 hsv => ?_)
      obtain ⟨⟨sg1, hI1⟩, hk1, hr1⟩ := hsv
      have hRO1 := hI1.1.1
      have hI1' : AtS I1 0 π a.1 := hI1.2.1
      have h61 := psh_6 a hA.2.1
      have h31 : StyAt R1 31 32 := ⟨sf_31, ro_31_2 hRO1, sf_32⟩
      refine r_aload_n dX7_loadStops_41 rfl ?_
      refine r_iconst dX7_loadStops_42 ?_
      refine q_putI fl_X7_86 dX7_loadStops_43 sf_0 ?_
      have hIc := hI1.clr h61
      refine r_aload_n dX7_loadStops_46 rfl ?_
      refine q_getR fl_X7_12 dX7_loadStops_47 sf_0 (ro_0_0 hRO1) ?_
      refine q_getR fl_X7_56 dX7_loadStops_50 sf_1 (ro_1_3 hRO1) ?_
      refine r_iload_n dX7_loadStops_53 rfl ?_
      refine q_aald (t := 3) (by decide) dX7_loadStops_54 sf_2 (by omega) (ry0 hRO1 (i := s) (by omega)).1 ?_
      refine r_astore_n dX7_loadStops_55 (by decide) ?_
      dsimp only [lset]
      refine r_aload_n dX7_loadStops_56 rfl ?_
      refine r_aload_n dX7_loadStops_57 rfl ?_
      refine q_getR fl_X7_27 dX7_loadStops_58 sf_0 (ro_0_5 hRO1) ?_
      refine q_getR fl_X7_93 dX7_loadStops_61 sf_30 (ro_30_0 hRO1) ?_
      refine q_callVW lk_X7_97 dX7_loadStops_64 (c_takeStopsOf _ R1 (ry0 hRO1 (i := s) (by omega)).2 h31) (by decide) (ry0 hRO1 (i := s) (by omega)).2.1 rfl rfl (Nat.le_of_ble_eq_true rfl) (by decide) (fun I6 hI6 => ?_)
      have hg2 : ∀ q : Int, 1 ≤ q → q ≤ 80 → I6 (5 + 2 * s.toNat) q = (ldR a.2.2.2.2 a.2.2.2.1 8 (sk a.2.2.2.2 a.2.2.2.1 0) (fun _ => 0)).2 q := fun q h1 h2 => by
        rw [hI6, if_pos ⟨rfl, h1, h2⟩, u2_n (Or.inl (by decide)), hk1 _ _ (by omega)]
        exact hz3 q h1 h2
      have hsv1 : SV (I6 (5 + 2 * s.toNat)) := SV.congr hg2 (SV.congr (fun q h1 h2 => (hz3 q h1 h2).symm) hz4)
      refine r_aload_n dX7_loadStops_67 rfl ?_
      refine r_bipush dX7_loadStops_68 (by decide) ?_
      refine q_callVF lk_X7_71 dX7_loadStops_70 (c_stopsBefore _ R1 (ry0 hRO1 (i := s) (by omega)).2 hsv1 81 (by decide)) (by decide) (ry0 hRO1 (i := s) (by omega)).2.1 rfl rfl (Nat.le_of_ble_eq_true rfl) (by decide) ?_
      rw [show (if (81 : Int) - 1 < 80 then (81 : Int) - 1 else 80).toNat = 80 by decide]
      refine q_iretZR dX7_loadStops_73 rfl ?_
      have e : aLoadStops a s = (cntF (ldR a.2.2.2.2 a.2.2.2.1 8 (sk a.2.2.2.2 a.2.2.2.1 0) (fun _ => 0)).2 80, clr (wS (psh a) (setF a.1 s.toNat (ldR a.2.2.2.2 a.2.2.2.1 8 (sk a.2.2.2.2 a.2.2.2.1 0) (fun _ => 0)).2))) := by
        unfold aLoadStops
        rw [if_pos (by omega), if_neg (by rw [← hz1]; omega)]
      rw [e]
      exact ⟨cntF_congr hg2, ⟨π, sg1, hIc.sty h61 (i := s.toNat) (by omega) (fun x j h => by rw [hI6, if_neg (by omega)]) hg2⟩, fun x j h => by rw [hI6, if_neg (by omega), u2_n (Or.inl (by omega)), hk1 _ _ (by omega)]; exact hz5 x j (by omega) (by omega)⟩
    · refine r_sipush dX7_loadStops_31 (by decide) ?_
      refine r_iload_n dX7_loadStops_34 rfl ?_
      refine r_isub dX7_loadStops_35 ?_
      refine q_iretZR dX7_loadStops_36 rfl ?_
      have e : aLoadStops a s = (-1000 - z, a) := by
        unfold aLoadStops
        rw [if_pos (by omega), ← hz1, if_pos h28]
      rw [e]
      exact ⟨rfl, ⟨π, sg, hI5⟩, fun x j h => hz5 x j (by omega) (by omega)⟩
  · refine r_iconst dX7_loadStops_8 ?_
    refine q_iretZR dX7_loadStops_9 rfl ?_
    have e : aLoadStops a s = (-1, a) := by
      unfold aLoadStops
      rw [if_neg (by omega)]
    rw [e]
    exact ⟨rfl, ⟨π, sg, hI⟩, fun _ _ _ => rfl⟩
