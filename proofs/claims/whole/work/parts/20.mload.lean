/-! stops that are read from a text: the other object -/
def TxM (I : Mem) (tx : Int → Int) (tl : Int) : Prop := I 290 4 = tl ∧ (0 ≤ tl ∧ tl ≤ 100) ∧ ∀ j : Int, 0 ≤ j → j < tl → I 293 j = (tx j).bmod 256 ∧ 0 ≤ tx j ∧ tx j ≤ 255
theorem TxM.kept {I I1 : Mem} {tx : Int → Int} {tl : Int} (h : TxM I tx tl) (h1 : I1 290 4 = I 290 4) (h2 : ∀ j, I1 293 j = I 293 j) : TxM I1 tx tl := ⟨h1.trans h.1, h.2.1, fun j q1 q2 => ⟨(h2 j).trans (h.2.2 j q1 q2).1, (h.2.2 j q1 q2).2⟩⟩
theorem TxM.at {I : Mem} {tx : Int → Int} {tl : Int} (h : TxM I tx tl) (v : Int) : TxM (u2 I 290 5 v) tx tl := h.kept (u2_n (Or.inr (by decide))) (fun _ => u2_n (Or.inl (by decide)))
def tF (y : Int → Int) : Nat → Int → Int
  | 0 => fun _ => 0
  | n + 1 => upF (tF y n) (y (3 * n)) (1 + y (3 * n + 1) * 4 + y (3 * n + 2))
theorem tF_congr {y y1 : Int → Int} : ∀ n : Nat, (∀ j : Int, 0 ≤ j → j < 3 * n → y1 j = y j) → tF y1 n = tF y n
  | 0, _ => rfl
  | n + 1, h => by
    show upF (tF y1 n) _ _ = upF (tF y n) _ _
    rw [tF_congr n (fun j h1 h2 => h j h1 (by omega)), h _ (by omega) (by omega), h _ (by omega) (by omega), h _ (by omega) (by omega)]
/-- m triples of what was read, no position twice -/
def T3 (y : Int → Int) (m : Int) : Prop := ∀ k : Int, 0 ≤ k → k < m → (1 ≤ y (3 * k) ∧ y (3 * k) ≤ 80) ∧ (0 ≤ y (3 * k + 1) ∧ y (3 * k + 1) ≤ 4) ∧ (0 ≤ y (3 * k + 2) ∧ y (3 * k + 2) ≤ 3) ∧ tF y k.toNat (y (3 * k)) = 0
theorem tF_step {y : Int → Int} {k : Int} (hk : 0 ≤ k) : tF y (k + 1).toNat = upF (tF y k.toNat) (y (3 * k)) (1 + y (3 * k + 1) * 4 + y (3 * k + 2)) := by
  rw [show (k + 1).toNat = k.toNat + 1 by omega]
  show upF (tF y k.toNat) (y (3 * (k.toNat : Int))) (1 + y (3 * (k.toNat : Int) + 1) * 4 + y (3 * (k.toNat : Int) + 2)) = _
  rw [show (k.toNat : Int) = k by omega]
theorem tF_sv {y : Int → Int} {m : Int} (h : T3 y m) : ∀ n : Nat, (n : Int) ≤ m → SV (tF y n) ∧ cntF (tF y n) 80 = n
  | 0, _ => ⟨fun p _ _ => by show (0 : Int) ≤ 0 ∧ (0 : Int) ≤ 20; omega, by show cntF (fun _ => 0) 80 = 0; decide⟩
  | n + 1, hn => by
    have h1 := tF_sv h n (by omega)
    have h2 := h n (by omega) (by omega)
    rw [Int.toNat_natCast] at h2
    refine ⟨SV_up h1.1 (by omega), ?_⟩
    show cntF (upF (tF y n) _ _) 80 = _
    rw [cntF_up _ (by omega) (by omega), if_pos ⟨h2.2.2.2, by omega⟩, h1.2]
    omega
theorem sk_sk {tx : Int → Int} {tl x : Int} (ht : tl ≤ 100) (h0 : 0 ≤ x) : sk tx tl (sk tx tl x) = sk tx tl x := sk_no (sk_at ht 100 x h0 (by omega))
set_option maxHeartbeats 4000000 in
set_option maxRecDepth 100000 in
theorem m_here (I : Mem) (R : RMem) (hRO : RefOk R) (tx : Int → Int) (tl : Int) (hT : TxM I tx tl) (hat : 0 ≤ I 290 5 ∧ I 290 5 ≤ tl)  : CC 1 0 0 yX8_here cX8_here 1 (some .int) [.inr (some 290)] (298, ShF, I, R) (PZ R (fun z I1 => z = nx tx tl (sk tx tl (I 290 5)) ∧ I1 = u2 I 290 5 (sk tx tl (I 290 5)))) := by
  have htl := hT.2.1
  have htt := hT.1
  have htx := hT.2.2
  have hnb := nx_bd (tx := tx) (tl := tl) (fun j h1 h2 => (htx j h1 h2).2)
  have hloop : ∀ (n : Nat) (x : Int), tl < x + n → (0 ≤ x ∧ x ≤ tl) → sk tx tl (I 290 5) = sk tx tl x → WW cX8_here RX8 1 (some .int) false 1 0 0 (PZ R (fun z I1 => z = nx tx tl (sk tx tl (I 290 5)) ∧ I1 = u2 I 290 5 (sk tx tl (I 290 5)))) 0 0 0 [some (.inr (some 290))] [] (298, ShF, u2 I 290 5 x, R) := by
    intro n
    induction n with
    | zero => intros; exfalso; omega
    | succ n ih =>
      intro x g1 g2 g3
      refine r_aload_n dX8_here_0 rfl ?_
      refine q_getI fl_X8_69 dX8_here_1 sf_290 ?_
      rw [u2_s]
      refine r_aload_n dX8_here_4 rfl ?_
      refine q_getI fl_X8_66 dX8_here_5 sf_290 ?_
      rw [u2_n (Or.inr (by decide)), htt]
      refine r_icmpge (tgt := 38) dX8_here_8 (by decide) (by omega) (by omega) (fun h8 => ?_) (fun h8 => ?_)
      · refine r_aload_n dX8_here_38 rfl ?_
        refine q_getI fl_X8_69 dX8_here_39 sf_290 ?_
        rw [u2_s]
        refine r_aload_n dX8_here_42 rfl ?_
        refine q_getI fl_X8_66 dX8_here_43 sf_290 ?_
        rw [u2_n (Or.inr (by decide)), htt]
        refine r_icmpge (tgt := 65) dX8_here_46 (by decide) (by omega) (by omega) (fun h46 => ?_) (fun h46 => ?_)
        · refine r_iconst dX8_here_65 ?_
          refine q_iretZ dX8_here_66 rfl ?_
          have hsk : sk tx tl x = x := sk_no (by omega)
          rw [g3, hsk]
          first
            | exact ⟨by omega, rfl⟩
            | (have hno : nx tx tl x = -1 := if_neg (by omega)
               exact ⟨hno.symm, rfl⟩)
        · refine r_aload_n dX8_here_49 rfl ?_
          refine q_getR fl_X8_16 dX8_here_50 sf_290 (ro_290_3 hRO) ?_
          refine r_aload_n dX8_here_53 rfl ?_
          refine q_getI fl_X8_69 dX8_here_54 sf_290 ?_
          rw [u2_s]
          refine q_bald dX8_here_57 sf_293 (by omega) ?_
          have hb8 := htx x (by omega) (by omega)
          have hbe := bm_eq (tx x) hb8.2
          have hrd : u2 I 290 5 x 293 x = (tx x).bmod 256 := (u2_n (Or.inl (by decide))).trans hb8.1
          have hnx : nx tx tl x = tx x := if_pos (by omega)
          have hbm := bm_in (tx x)
          rw [hrd]
          refine r_sipush dX8_here_58 (by decide) ?_
          refine q_iand255 dX8_here_61 (by omega) ?_
          refine r_goto (tgt := 66) dX8_here_62 (by decide) ?_
          refine q_iretZ dX8_here_66 rfl ?_
          have hsk : sk tx tl x = x := sk_no (by omega)
          rw [g3, hsk]
          first
            | exact ⟨by omega, rfl⟩
            | (have hno : nx tx tl x = -1 := if_neg (by omega)
               exact ⟨hno.symm, rfl⟩)
      · refine r_aload_n dX8_here_11 rfl ?_
        refine q_getR fl_X8_16 dX8_here_12 sf_290 (ro_290_3 hRO) ?_
        refine r_aload_n dX8_here_15 rfl ?_
        refine q_getI fl_X8_69 dX8_here_16 sf_290 ?_
        rw [u2_s]
        refine q_bald dX8_here_19 sf_293 (by omega) ?_
        have hb8 := htx x (by omega) (by omega)
        have hbe := bm_eq (tx x) hb8.2
        have hrd : u2 I 290 5 x 293 x = (tx x).bmod 256 := (u2_n (Or.inl (by decide))).trans hb8.1
        have hnx : nx tx tl x = tx x := if_pos (by omega)
        have hbm := bm_in (tx x)
        rw [hrd]
        refine r_bipush dX8_here_20 (by decide) ?_
        refine r_icmpne (tgt := 38) dX8_here_22 (by decide) (by omega) (by omega) (fun h22 => ?_) (fun h22 => ?_)
        · refine r_aload_n dX8_here_38 rfl ?_
          refine q_getI fl_X8_69 dX8_here_39 sf_290 ?_
          rw [u2_s]
          refine r_aload_n dX8_here_42 rfl ?_
          refine q_getI fl_X8_66 dX8_here_43 sf_290 ?_
          rw [u2_n (Or.inr (by decide)), htt]
          refine r_icmpge (tgt := 65) dX8_here_46 (by decide) (by omega) (by omega) (fun h46 => ?_) (fun h46 => ?_)
          · refine r_iconst dX8_here_65 ?_
            refine q_iretZ dX8_here_66 rfl ?_
            have hsk : sk tx tl x = x := sk_no (by omega)
            rw [g3, hsk]
            first
              | exact ⟨by omega, rfl⟩
              | (have hno : nx tx tl x = -1 := if_neg (by omega)
                 exact ⟨hno.symm, rfl⟩)
          · refine r_aload_n dX8_here_49 rfl ?_
            refine q_getR fl_X8_16 dX8_here_50 sf_290 (ro_290_3 hRO) ?_
            refine r_aload_n dX8_here_53 rfl ?_
            refine q_getI fl_X8_69 dX8_here_54 sf_290 ?_
            rw [u2_s]
            refine q_bald dX8_here_57 sf_293 (by omega) ?_
            have hb8 := htx x (by omega) (by omega)
            have hbe := bm_eq (tx x) hb8.2
            have hrd : u2 I 290 5 x 293 x = (tx x).bmod 256 := (u2_n (Or.inl (by decide))).trans hb8.1
            have hnx : nx tx tl x = tx x := if_pos (by omega)
            have hbm := bm_in (tx x)
            rw [hrd]
            refine r_sipush dX8_here_58 (by decide) ?_
            refine q_iand255 dX8_here_61 (by omega) ?_
            refine r_goto (tgt := 66) dX8_here_62 (by decide) ?_
            refine q_iretZ dX8_here_66 rfl ?_
            have hsk : sk tx tl x = x := sk_no (by omega)
            rw [g3, hsk]
            first
              | exact ⟨by omega, rfl⟩
              | (have hno : nx tx tl x = -1 := if_neg (by omega)
                 exact ⟨hno.symm, rfl⟩)
        · refine r_aload_n dX8_here_25 rfl ?_
          refine r_dup dX8_here_26 ?_
          refine q_getI fl_X8_69 dX8_here_27 sf_290 ?_
          rw [u2_s]
          refine r_iconst dX8_here_30 ?_
          refine r_iadd dX8_here_31 ?_
          refine q_putI fl_X8_69 dX8_here_32 sf_290 ?_
          rw [u2_u2]
          refine r_goto (tgt := 0) dX8_here_35 (by decide) ?_
          exact ih _ (by omega) (by omega) (by rw [g3]; exact sk_yes ⟨by omega, by omega⟩ ⟨by omega, by omega⟩)
  have h0 := hloop 101 (I 290 5) (by omega) hat rfl
  rw [u2_self] at h0
  refine CC_of (own := RX8) (ini := false) (by decide +kernel) rfl (fun h => absurd h (by decide)) (Nat.le_of_ble_eq_true rfl) ?_
  exact h0
set_option maxHeartbeats 4000000 in
set_option maxRecDepth 100000 in
theorem m_kindOf (I : Mem) (R : RMem) (c : Int) (hc : -2147483648 ≤ c ∧ c ≤ 2147483647) : CC 0 0 0 yX8_kindOf cX8_kindOf 1 (some .int) [.inl (c)] (298, ShF, I, R) (PF (if kdO c = -1 then -9 else kdO c) I R) := by
  refine CC_of (own := RX8) (ini := false) (by decide +kernel) rfl (fun h => absurd h (by decide)) (Nat.le_of_ble_eq_true rfl) ?_
  show WW cX8_kindOf RX8 1 (some .int) false 0 0 0 (PF (if kdO c = -1 then -9 else kdO c) I R) 0 0 0 [some (.inl (c))] [] (298, ShF, I, R)
  refine r_iload_n dX8_kindOf_0 rfl ?_
  refine r_bipush dX8_kindOf_1 (by decide) ?_
  refine r_icmpne (tgt := 10) dX8_kindOf_3 (by decide) (by omega) (by omega) (fun h3 => ?_) (fun h3 => ?_)
  · refine r_iload_n dX8_kindOf_10 rfl ?_
    refine r_bipush dX8_kindOf_11 (by decide) ?_
    refine r_icmpne (tgt := 20) dX8_kindOf_13 (by decide) (by omega) (by omega) (fun h13 => ?_) (fun h13 => ?_)
    · refine r_iload_n dX8_kindOf_20 rfl ?_
      refine r_bipush dX8_kindOf_21 (by decide) ?_
      refine r_icmpne (tgt := 30) dX8_kindOf_23 (by decide) (by omega) (by omega) (fun h23 => ?_) (fun h23 => ?_)
      · refine r_iload_n dX8_kindOf_30 rfl ?_
        refine r_bipush dX8_kindOf_31 (by decide) ?_
        refine r_icmpne (tgt := 40) dX8_kindOf_33 (by decide) (by omega) (by omega) (fun h33 => ?_) (fun h33 => ?_)
        · refine r_iload_n dX8_kindOf_40 rfl ?_
          refine r_bipush dX8_kindOf_41 (by decide) ?_
          refine r_icmpne (tgt := 50) dX8_kindOf_43 (by decide) (by omega) (by omega) (fun h43 => ?_) (fun h43 => ?_)
          · refine r_bipush dX8_kindOf_50 (by decide) ?_
            refine q_iretF dX8_kindOf_52 rfl ?_
            unfold kdO
            first
              | (rw [if_pos (show c = 108 by omega)]; rfl)
              | (rw [if_neg (show ¬ c = 108 by omega)]
                 first
                   | (rw [if_pos (show c = 114 by omega)]; rfl)
                   | (rw [if_neg (show ¬ c = 114 by omega)]
                      first
                        | (rw [if_pos (show c = 109 by omega)]; rfl)
                        | (rw [if_neg (show ¬ c = 109 by omega)]
                           first
                             | (rw [if_pos (show c = 112 by omega)]; rfl)
                             | (rw [if_neg (show ¬ c = 112 by omega)]
                                first
                                  | (rw [if_pos (show c = 98 by omega)]; rfl)
                                  | (rw [if_neg (show ¬ c = 98 by omega)]; rfl)))))
          · refine r_iconst dX8_kindOf_46 ?_
            refine r_goto (tgt := 52) dX8_kindOf_47 (by decide) ?_
            refine q_iretF dX8_kindOf_52 rfl ?_
            unfold kdO
            first
              | (rw [if_pos (show c = 108 by omega)]; rfl)
              | (rw [if_neg (show ¬ c = 108 by omega)]
                 first
                   | (rw [if_pos (show c = 114 by omega)]; rfl)
                   | (rw [if_neg (show ¬ c = 114 by omega)]
                      first
                        | (rw [if_pos (show c = 109 by omega)]; rfl)
                        | (rw [if_neg (show ¬ c = 109 by omega)]
                           first
                             | (rw [if_pos (show c = 112 by omega)]; rfl)
                             | (rw [if_neg (show ¬ c = 112 by omega)]
                                first
                                  | (rw [if_pos (show c = 98 by omega)]; rfl)
                                  | (rw [if_neg (show ¬ c = 98 by omega)]; rfl)))))
        · refine r_iconst dX8_kindOf_36 ?_
          refine r_goto (tgt := 52) dX8_kindOf_37 (by decide) ?_
          refine q_iretF dX8_kindOf_52 rfl ?_
          unfold kdO
          first
            | (rw [if_pos (show c = 108 by omega)]; rfl)
            | (rw [if_neg (show ¬ c = 108 by omega)]
               first
                 | (rw [if_pos (show c = 114 by omega)]; rfl)
                 | (rw [if_neg (show ¬ c = 114 by omega)]
                    first
                      | (rw [if_pos (show c = 109 by omega)]; rfl)
                      | (rw [if_neg (show ¬ c = 109 by omega)]
                         first
                           | (rw [if_pos (show c = 112 by omega)]; rfl)
                           | (rw [if_neg (show ¬ c = 112 by omega)]
                              first
                                | (rw [if_pos (show c = 98 by omega)]; rfl)
                                | (rw [if_neg (show ¬ c = 98 by omega)]; rfl)))))
      · refine r_iconst dX8_kindOf_26 ?_
        refine r_goto (tgt := 52) dX8_kindOf_27 (by decide) ?_
        refine q_iretF dX8_kindOf_52 rfl ?_
        unfold kdO
        first
          | (rw [if_pos (show c = 108 by omega)]; rfl)
          | (rw [if_neg (show ¬ c = 108 by omega)]
             first
               | (rw [if_pos (show c = 114 by omega)]; rfl)
               | (rw [if_neg (show ¬ c = 114 by omega)]
                  first
                    | (rw [if_pos (show c = 109 by omega)]; rfl)
                    | (rw [if_neg (show ¬ c = 109 by omega)]
                       first
                         | (rw [if_pos (show c = 112 by omega)]; rfl)
                         | (rw [if_neg (show ¬ c = 112 by omega)]
                            first
                              | (rw [if_pos (show c = 98 by omega)]; rfl)
                              | (rw [if_neg (show ¬ c = 98 by omega)]; rfl)))))
    · refine r_iconst dX8_kindOf_16 ?_
      refine r_goto (tgt := 52) dX8_kindOf_17 (by decide) ?_
      refine q_iretF dX8_kindOf_52 rfl ?_
      unfold kdO
      first
        | (rw [if_pos (show c = 108 by omega)]; rfl)
        | (rw [if_neg (show ¬ c = 108 by omega)]
           first
             | (rw [if_pos (show c = 114 by omega)]; rfl)
             | (rw [if_neg (show ¬ c = 114 by omega)]
                first
                  | (rw [if_pos (show c = 109 by omega)]; rfl)
                  | (rw [if_neg (show ¬ c = 109 by omega)]
                     first
                       | (rw [if_pos (show c = 112 by omega)]; rfl)
                       | (rw [if_neg (show ¬ c = 112 by omega)]
                          first
                            | (rw [if_pos (show c = 98 by omega)]; rfl)
                            | (rw [if_neg (show ¬ c = 98 by omega)]; rfl)))))
  · refine r_iconst dX8_kindOf_6 ?_
    refine r_goto (tgt := 52) dX8_kindOf_7 (by decide) ?_
    refine q_iretF dX8_kindOf_52 rfl ?_
    unfold kdO
    first
      | (rw [if_pos (show c = 108 by omega)]; rfl)
      | (rw [if_neg (show ¬ c = 108 by omega)]
         first
           | (rw [if_pos (show c = 114 by omega)]; rfl)
           | (rw [if_neg (show ¬ c = 114 by omega)]
              first
                | (rw [if_pos (show c = 109 by omega)]; rfl)
                | (rw [if_neg (show ¬ c = 109 by omega)]
                   first
                     | (rw [if_pos (show c = 112 by omega)]; rfl)
                     | (rw [if_neg (show ¬ c = 112 by omega)]
                        first
                          | (rw [if_pos (show c = 98 by omega)]; rfl)
                          | (rw [if_neg (show ¬ c = 98 by omega)]; rfl)))))
set_option maxHeartbeats 4000000 in
set_option maxRecDepth 100000 in
theorem m_leaderOf (I : Mem) (R : RMem) (c : Int) (hc : -2147483648 ≤ c ∧ c ≤ 2147483647) : CC 0 0 0 yX8_leaderOf cX8_leaderOf 1 (some .int) [.inl (c)] (298, ShF, I, R) (PF (ldO c) I R) := by
  refine CC_of (own := RX8) (ini := false) (by decide +kernel) rfl (fun h => absurd h (by decide)) (Nat.le_of_ble_eq_true rfl) ?_
  show WW cX8_leaderOf RX8 1 (some .int) false 0 0 0 (PF (ldO c) I R) 0 0 0 [some (.inl (c))] [] (298, ShF, I, R)
  refine r_iload_n dX8_leaderOf_0 rfl ?_
  refine r_bipush dX8_leaderOf_1 (by decide) ?_
  refine r_icmpne (tgt := 10) dX8_leaderOf_3 (by decide) (by omega) (by omega) (fun h3 => ?_) (fun h3 => ?_)
  · refine r_iload_n dX8_leaderOf_10 rfl ?_
    refine r_bipush dX8_leaderOf_11 (by decide) ?_
    refine r_icmpne (tgt := 20) dX8_leaderOf_13 (by decide) (by omega) (by omega) (fun h13 => ?_) (fun h13 => ?_)
    · refine r_iload_n dX8_leaderOf_20 rfl ?_
      refine r_bipush dX8_leaderOf_21 (by decide) ?_
      refine r_icmpne (tgt := 30) dX8_leaderOf_23 (by decide) (by omega) (by omega) (fun h23 => ?_) (fun h23 => ?_)
      · refine r_iconst dX8_leaderOf_30 ?_
        refine q_iretF dX8_leaderOf_31 rfl ?_
        unfold ldO
        first
          | (rw [if_pos (show c = 46 by omega)])
          | (rw [if_neg (show ¬ c = 46 by omega)]
             first
               | (rw [if_pos (show c = 45 by omega)])
               | (rw [if_neg (show ¬ c = 45 by omega)]
                  first
                    | (rw [if_pos (show c = 95 by omega)])
                    | (rw [if_neg (show ¬ c = 95 by omega)])))
      · refine r_iconst dX8_leaderOf_26 ?_
        refine r_goto (tgt := 31) dX8_leaderOf_27 (by decide) ?_
        refine q_iretF dX8_leaderOf_31 rfl ?_
        unfold ldO
        first
          | (rw [if_pos (show c = 46 by omega)])
          | (rw [if_neg (show ¬ c = 46 by omega)]
             first
               | (rw [if_pos (show c = 45 by omega)])
               | (rw [if_neg (show ¬ c = 45 by omega)]
                  first
                    | (rw [if_pos (show c = 95 by omega)])
                    | (rw [if_neg (show ¬ c = 95 by omega)])))
    · refine r_iconst dX8_leaderOf_16 ?_
      refine r_goto (tgt := 31) dX8_leaderOf_17 (by decide) ?_
      refine q_iretF dX8_leaderOf_31 rfl ?_
      unfold ldO
      first
        | (rw [if_pos (show c = 46 by omega)])
        | (rw [if_neg (show ¬ c = 46 by omega)]
           first
             | (rw [if_pos (show c = 45 by omega)])
             | (rw [if_neg (show ¬ c = 45 by omega)]
                first
                  | (rw [if_pos (show c = 95 by omega)])
                  | (rw [if_neg (show ¬ c = 95 by omega)])))
  · refine r_iconst dX8_leaderOf_6 ?_
    refine r_goto (tgt := 31) dX8_leaderOf_7 (by decide) ?_
    refine q_iretF dX8_leaderOf_31 rfl ?_
    unfold ldO
    first
      | (rw [if_pos (show c = 46 by omega)])
      | (rw [if_neg (show ¬ c = 46 by omega)]
         first
           | (rw [if_pos (show c = 45 by omega)])
           | (rw [if_neg (show ¬ c = 45 by omega)]
              first
                | (rw [if_pos (show c = 95 by omega)])
                | (rw [if_neg (show ¬ c = 95 by omega)])))
set_option maxHeartbeats 4000000 in
set_option maxRecDepth 100000 in
theorem m_isTold (I : Mem) (R : RMem) (hRO : RefOk R) (m : Int) (hm : I 290 6 = m) (hm8 : 0 ≤ m ∧ m ≤ 8) (h3 : T3 (I 294) m) (p : Int) (hp : -2147483648 ≤ p ∧ p ≤ 2147483647) : CC 0 0 0 yX8_isTold cX8_isTold 4 (some .boolean) [.inr (some 290), .inl (p)] (298, ShF, I, R) (PF (b2i (tF (I 294) m.toNat p ≠ 0)) I R) := by
  have hloop : ∀ (n : Nat) (z k : Int), 8 < k + n → (0 ≤ k ∧ k ≤ m) → ((tF (I 294) k.toNat p ≠ 0 ∧ z = 1) ∨ (tF (I 294) k.toNat p = 0 ∧ z = 0)) → WW cX8_isTold RX8 4 (some .boolean) false 0 0 0 (PF (b2i (tF (I 294) m.toNat p ≠ 0)) I R) 0 0 4 [some (.inr (some 290)), some (.inl (p)), some (.inl (z)), some (.inl (k))] [] (298, ShF, I, R) := by
    intro n
    induction n with
    | zero => intros; exfalso; omega
    | succ n ih =>
      intro z k g1 g2 g3
      refine r_iload_n dX8_isTold_4 rfl ?_
      refine r_aload_n dX8_isTold_5 rfl ?_
      refine q_getI fl_X8_72 dX8_isTold_6 sf_290 ?_
      rw [hm]
      refine r_icmpge (tgt := 40) dX8_isTold_9 (by decide) (by omega) (by omega) (fun h9 => ?_) (fun h9 => ?_)
      · refine r_iload_n dX8_isTold_40 rfl ?_
        refine q_zretF dX8_isTold_41 rfl (by omega) ?_
        rw [show k = m by omega] at g3
        rcases g3 with h | h
        · rw [h.2]; exact b2i_t h.1
        · rw [h.2]; exact b2i_f (fun q => q h.1)
      · have h3k := h3 k (by omega) (by omega)
        have hup : tF (I 294) (k + 1).toNat p = if p = I 294 (3 * k) then 1 + I 294 (3 * k + 1) * 4 + I 294 (3 * k + 2) else tF (I 294) k.toNat p := by rw [tF_step g2.1]; rfl
        refine r_iload_n dX8_isTold_12 rfl ?_
        refine r_ifne (tgt := 28) dX8_isTold_13 (by decide) (by omega) (fun h13 => ?_) (fun h13 => ?_)
        · refine r_iconst dX8_isTold_28 ?_
          refine r_goto (tgt := 33) dX8_isTold_29 (by decide) ?_
          refine r_istore_n dX8_isTold_33 (by decide) ?_
          dsimp only [lset]
          refine r_iinc dX8_isTold_34 rfl (by decide) ?_
          dsimp only [lset]
          refine r_goto (tgt := 4) dX8_isTold_37 (by decide) ?_
          refine ih _ _ (by omega) (by omega) ?_
          rw [hup]
          by_cases hpk : p = I 294 (3 * k)
          · rw [if_pos hpk]
            first
              | exact Or.inl ⟨by omega, rfl⟩
              | (exfalso; omega)
          · rw [if_neg hpk]
            first
              | exact Or.inl ⟨by omega, rfl⟩
              | exact Or.inr ⟨by omega, rfl⟩
              | (exfalso; omega)
        · refine r_aload_n dX8_isTold_16 rfl ?_
          refine q_getR fl_X8_20 dX8_isTold_17 sf_290 (ro_290_7 hRO) ?_
          refine r_iconst dX8_isTold_20 ?_
          refine r_iload_n dX8_isTold_21 rfl ?_
          refine r_imul dX8_isTold_22 ?_
          refine q_iald dX8_isTold_23 sf_294 (by omega) ?_
          refine r_iload_n dX8_isTold_24 rfl ?_
          refine r_icmpne (tgt := 32) dX8_isTold_25 (by decide) (by omega) (by omega) (fun h25 => ?_) (fun h25 => ?_)
          · refine r_iconst dX8_isTold_32 ?_
            refine r_istore_n dX8_isTold_33 (by decide) ?_
            dsimp only [lset]
            refine r_iinc dX8_isTold_34 rfl (by decide) ?_
            dsimp only [lset]
            refine r_goto (tgt := 4) dX8_isTold_37 (by decide) ?_
            refine ih _ _ (by omega) (by omega) ?_
            rw [hup]
            by_cases hpk : p = I 294 (3 * k)
            · rw [if_pos hpk]
              first
                | exact Or.inl ⟨by omega, rfl⟩
                | (exfalso; omega)
            · rw [if_neg hpk]
              first
                | exact Or.inl ⟨by omega, rfl⟩
                | exact Or.inr ⟨by omega, rfl⟩
                | (exfalso; omega)
          · refine r_iconst dX8_isTold_28 ?_
            refine r_goto (tgt := 33) dX8_isTold_29 (by decide) ?_
            refine r_istore_n dX8_isTold_33 (by decide) ?_
            dsimp only [lset]
            refine r_iinc dX8_isTold_34 rfl (by decide) ?_
            dsimp only [lset]
            refine r_goto (tgt := 4) dX8_isTold_37 (by decide) ?_
            refine ih _ _ (by omega) (by omega) ?_
            rw [hup]
            by_cases hpk : p = I 294 (3 * k)
            · rw [if_pos hpk]
              first
                | exact Or.inl ⟨by omega, rfl⟩
                | (exfalso; omega)
            · rw [if_neg hpk]
              first
                | exact Or.inl ⟨by omega, rfl⟩
                | exact Or.inr ⟨by omega, rfl⟩
                | (exfalso; omega)
  refine CC_of (own := RX8) (ini := false) (by decide +kernel) rfl (fun h => absurd h (by decide)) (Nat.le_of_ble_eq_true rfl) ?_
  show WW cX8_isTold RX8 4 (some .boolean) false 0 0 0 (PF (b2i (tF (I 294) m.toNat p ≠ 0)) I R) 0 0 0 [some (.inr (some 290)), some (.inl (p)), none, none] [] (298, ShF, I, R)
  refine r_iconst dX8_isTold_0 ?_
  refine r_istore_n dX8_isTold_1 (by decide) ?_
  dsimp only [lset]
  refine r_iconst dX8_isTold_2 ?_
  refine r_istore_n dX8_isTold_3 (by decide) ?_
  dsimp only [lset]
  exact hloop 9 0 0 (by omega) (by omega) (Or.inr ⟨rfl, rfl⟩)
set_option maxHeartbeats 4000000 in
set_option maxRecDepth 100000 in
theorem m_readsItem (I : Mem) (R : RMem) (hRO : RefOk R) (tx : Int → Int) (tl : Int) (hT : TxM I tx tl) (hat : 0 ≤ I 290 5 ∧ I 290 5 ≤ tl) (m : Int) (hm : I 290 6 = m) (hm8 : 0 ≤ m ∧ m ≤ 8) (h3 : T3 (I 294) m) (hX : sk tx tl (I 290 5) < tl) : CC 2 0 0 yX8_readsItem cX8_readsItem 5 (some .boolean) [.inr (some 290)] (298, ShF, I, R) (PZ R (fun z I1 => (m = 8 → z = 0 ∧ I1 = u2 I 290 5 (sk tx tl (I 290 5))) ∧ (m ≠ 8 → ((itemR tx tl (tF (I 294) m.toNat) (sk tx tl (I 290 5))).1 = false → z = 0 ∧ I1 = u2 I 290 5 (itemR tx tl (tF (I 294) m.toNat) (sk tx tl (I 290 5))).2.1) ∧ ((itemR tx tl (tF (I 294) m.toNat) (sk tx tl (I 290 5))).1 = true → z = 1 ∧ ∃ kd ld : Int, (0 ≤ kd ∧ kd ≤ 4) ∧ (0 ≤ ld ∧ ld ≤ 3) ∧ (itemR tx tl (tF (I 294) m.toNat) (sk tx tl (I 290 5))).2.2.2 = 1 + kd * 4 + ld ∧ I1 = u2 (u2 (u2 (u2 (u2 I 290 5 (itemR tx tl (tF (I 294) m.toNat) (sk tx tl (I 290 5))).2.1) 294 (3 * m) (itemR tx tl (tF (I 294) m.toNat) (sk tx tl (I 290 5))).2.2.1) 294 (3 * m + 1) kd) 294 (3 * m + 2) ld) 290 6 (m + 1))))) := by
  have htl := hT.2.1
  have htt := hT.1
  have htx := hT.2.2
  have hnb := nx_bd (tx := tx) (tl := tl) (fun j h1 h2 => (htx j h1 h2).2)
  have hsx := sk_bd tx tl (I 290 5)
  have hx1 := hnb (sk tx tl (I 290 5))
  have hkb := kdO_bd (nx tx tl (sk tx tl (I 290 5)))
  have hss := sk_bd tx tl ((sk tx tl (I 290 5)) + 1)
  have hs1 := hnb (sk tx tl ((sk tx tl (I 290 5)) + 1))
  have h195 : m ≠ 8 → (kdO (nx tx tl (sk tx tl (I 290 5)))) ≠ -1 → (49 ≤ nx tx tl (sk tx tl ((sk tx tl (I 290 5)) + 1)) ∧ nx tx tl (sk tx tl ((sk tx tl (I 290 5)) + 1)) ≤ 57) → ¬ (80 < (iP tx tl (sk tx tl ((sk tx tl (I 290 5)) + 1))) ∨ tF (I 294) m.toNat (iP tx tl (sk tx tl ((sk tx tl (I 290 5)) + 1))) ≠ 0) → ∀ (v2 x : Int), (0 ≤ x ∧ x ≤ tl) → sk tx tl x = (iR tx tl (kdO (nx tx tl (sk tx tl (I 290 5)))) (sk tx tl (iE tx tl (sk tx tl ((sk tx tl (I 290 5)) + 1))))) → WW cX8_readsItem RX8 5 (some .boolean) false 2 0 0 (PZ R (fun z I1 => (m = 8 → z = 0 ∧ I1 = u2 I 290 5 (sk tx tl (I 290 5))) ∧ (m ≠ 8 → ((itemR tx tl (tF (I 294) m.toNat) (sk tx tl (I 290 5))).1 = false → z = 0 ∧ I1 = u2 I 290 5 (itemR tx tl (tF (I 294) m.toNat) (sk tx tl (I 290 5))).2.1) ∧ ((itemR tx tl (tF (I 294) m.toNat) (sk tx tl (I 290 5))).1 = true → z = 1 ∧ ∃ kd ld : Int, (0 ≤ kd ∧ kd ≤ 4) ∧ (0 ≤ ld ∧ ld ≤ 3) ∧ (itemR tx tl (tF (I 294) m.toNat) (sk tx tl (I 290 5))).2.2.2 = 1 + kd * 4 + ld ∧ I1 = u2 (u2 (u2 (u2 (u2 I 290 5 (itemR tx tl (tF (I 294) m.toNat) (sk tx tl (I 290 5))).2.1) 294 (3 * m) (itemR tx tl (tF (I 294) m.toNat) (sk tx tl (I 290 5))).2.2.1) 294 (3 * m + 1) kd) 294 (3 * m + 2) ld) 290 6 (m + 1))))) 0 0 195 [some (.inr (some 290)), some (.inl (kdO (nx tx tl (sk tx tl (I 290 5))))), some (.inl v2), some (.inl (iP tx tl (sk tx tl ((sk tx tl (I 290 5)) + 1)))), some (.inl (iL tx tl (kdO (nx tx tl (sk tx tl (I 290 5)))) (sk tx tl (iE tx tl (sk tx tl ((sk tx tl (I 290 5)) + 1))))))] [] (298, ShF, u2 I 290 5 x, R) := by
    intro h8 hk1 hg hcond v2 x hx hxr
    have hr1 := hnb (iR tx tl (kdO (nx tx tl (sk tx tl (I 290 5)))) (sk tx tl (iE tx tl (sk tx tl ((sk tx tl (I 290 5)) + 1)))))
    have hpb := iP_bd hg
    have hlb : 0 ≤ (iL tx tl (kdO (nx tx tl (sk tx tl (I 290 5)))) (sk tx tl (iE tx tl (sk tx tl ((sk tx tl (I 290 5)) + 1))))) ∧ (iL tx tl (kdO (nx tx tl (sk tx tl (I 290 5)))) (sk tx tl (iE tx tl (sk tx tl ((sk tx tl (I 290 5)) + 1))))) ≤ 3 := by
      unfold iL
      split
      · omega
      · have := ldO_bd (nx tx tl (sk tx tl (iE tx tl (sk tx tl ((sk tx tl (I 290 5)) + 1))))); omega
    refine r_aload_n dX8_readsItem_195 rfl ?_
    refine q_callVZ lk_X8_75 dX8_readsItem_196 (m_here _ R hRO tx tl (hT.at x) (by rw [u2_s]; omega)) (by decide) sf_290 rfl rfl (Nat.le_of_ble_eq_true rfl) (by decide) (fun z5 I5 hz5 => ?_)
    obtain ⟨rfl, rfl⟩ := hz5
    rw [u2_s, u2_u2, hxr]
    refine r_bipush dX8_readsItem_199 (by decide) ?_
    refine r_icmpeq (tgt := 206) dX8_readsItem_201 (by decide) (by omega) (by omega) (fun h201 => ?_) (fun h201 => ?_)
    · refine r_aload_n dX8_readsItem_206 rfl ?_
      refine r_dup dX8_readsItem_207 ?_
      refine q_getI fl_X8_69 dX8_readsItem_208 sf_290 ?_
      rw [u2_s]
      refine r_iconst dX8_readsItem_211 ?_
      refine r_iadd dX8_readsItem_212 ?_
      refine q_putI fl_X8_69 dX8_readsItem_213 sf_290 ?_
      rw [u2_u2]
      refine r_aload_n dX8_readsItem_216 rfl ?_
      refine q_getR fl_X8_20 dX8_readsItem_217 sf_290 (ro_290_7 hRO) ?_
      refine r_iconst dX8_readsItem_220 ?_
      refine r_aload_n dX8_readsItem_221 rfl ?_
      refine q_getI fl_X8_72 dX8_readsItem_222 sf_290 ?_
      rw [u2_n (Or.inr (by decide)), hm]
      refine r_imul dX8_readsItem_225 ?_
      refine r_iload_n dX8_readsItem_226 rfl ?_
      refine q_iast dX8_readsItem_227 sf_294 (by omega) ?_
      refine r_aload_n dX8_readsItem_228 rfl ?_
      refine q_getR fl_X8_20 dX8_readsItem_229 sf_290 (ro_290_7 hRO) ?_
      refine r_iconst dX8_readsItem_232 ?_
      refine r_aload_n dX8_readsItem_233 rfl ?_
      refine q_getI fl_X8_72 dX8_readsItem_234 sf_290 ?_
      rw [u2_n (Or.inl (by decide)), u2_n (Or.inr (by decide)), hm]
      refine r_imul dX8_readsItem_237 ?_
      refine r_iconst dX8_readsItem_238 ?_
      refine r_iadd dX8_readsItem_239 ?_
      refine r_iload_n dX8_readsItem_240 rfl ?_
      refine q_iast dX8_readsItem_241 sf_294 (by omega) ?_
      refine r_aload_n dX8_readsItem_242 rfl ?_
      refine q_getR fl_X8_20 dX8_readsItem_243 sf_290 (ro_290_7 hRO) ?_
      refine r_iconst dX8_readsItem_246 ?_
      refine r_aload_n dX8_readsItem_247 rfl ?_
      refine q_getI fl_X8_72 dX8_readsItem_248 sf_290 ?_
      rw [u2_n (Or.inl (by decide)), u2_n (Or.inl (by decide)), u2_n (Or.inr (by decide)), hm]
      refine r_imul dX8_readsItem_251 ?_
      refine r_iconst dX8_readsItem_252 ?_
      refine r_iadd dX8_readsItem_253 ?_
      refine r_iload dX8_readsItem_254 rfl ?_
      refine q_iast dX8_readsItem_256 sf_294 (by omega) ?_
      refine r_aload_n dX8_readsItem_257 rfl ?_
      refine r_dup dX8_readsItem_258 ?_
      refine q_getI fl_X8_72 dX8_readsItem_259 sf_290 ?_
      rw [u2_n (Or.inl (by decide)), u2_n (Or.inl (by decide)), u2_n (Or.inl (by decide)), u2_n (Or.inr (by decide)), hm]
      refine r_iconst dX8_readsItem_262 ?_
      refine r_iadd dX8_readsItem_263 ?_
      refine q_putI fl_X8_72 dX8_readsItem_264 sf_290 ?_
      refine r_iconst dX8_readsItem_267 ?_
      refine q_zretZ dX8_readsItem_268 rfl (by decide) ?_
      have e : (itemR tx tl (tF (I 294) m.toNat) (sk tx tl (I 290 5))) = (true, (iR tx tl (kdO (nx tx tl (sk tx tl (I 290 5)))) (sk tx tl (iE tx tl (sk tx tl ((sk tx tl (I 290 5)) + 1))))) + 1, (iP tx tl (sk tx tl ((sk tx tl (I 290 5)) + 1))), 1 + (kdO (nx tx tl (sk tx tl (I 290 5)))) * 4 + (iL tx tl (kdO (nx tx tl (sk tx tl (I 290 5)))) (sk tx tl (iE tx tl (sk tx tl ((sk tx tl (I 290 5)) + 1)))))) := by
        unfold itemR
        rw [if_neg hk1, if_neg (fun q => q hg), if_neg hcond, if_neg (fun q => q h201)]
      rw [e]
      exact ⟨fun h => by omega, fun _ => ⟨fun h => Bool.noConfusion (show true = false from h), fun _ => ⟨rfl, (kdO (nx tx tl (sk tx tl (I 290 5)))), (iL tx tl (kdO (nx tx tl (sk tx tl (I 290 5)))) (sk tx tl (iE tx tl (sk tx tl ((sk tx tl (I 290 5)) + 1))))), by omega, hlb, rfl, rfl⟩⟩⟩
    · refine r_iconst dX8_readsItem_204 ?_
      refine q_zretZ dX8_readsItem_205 rfl (by decide) ?_
      have e : (itemR tx tl (tF (I 294) m.toNat) (sk tx tl (I 290 5))) = (false, (iR tx tl (kdO (nx tx tl (sk tx tl (I 290 5)))) (sk tx tl (iE tx tl (sk tx tl ((sk tx tl (I 290 5)) + 1))))), 0, 0) := by
        unfold itemR
        rw [if_neg hk1, if_neg (fun q => q hg), if_neg hcond, if_pos h201]
      rw [e]
      exact ⟨fun h => by omega, fun _ => ⟨fun _ => ⟨rfl, rfl⟩, fun h => Bool.noConfusion (show false = true from h)⟩⟩
  have h137 : m ≠ 8 → (kdO (nx tx tl (sk tx tl (I 290 5)))) ≠ -1 → (49 ≤ nx tx tl (sk tx tl ((sk tx tl (I 290 5)) + 1)) ∧ nx tx tl (sk tx tl ((sk tx tl (I 290 5)) + 1)) ≤ 57) → WW cX8_readsItem RX8 5 (some .boolean) false 2 0 0 (PZ R (fun z I1 => (m = 8 → z = 0 ∧ I1 = u2 I 290 5 (sk tx tl (I 290 5))) ∧ (m ≠ 8 → ((itemR tx tl (tF (I 294) m.toNat) (sk tx tl (I 290 5))).1 = false → z = 0 ∧ I1 = u2 I 290 5 (itemR tx tl (tF (I 294) m.toNat) (sk tx tl (I 290 5))).2.1) ∧ ((itemR tx tl (tF (I 294) m.toNat) (sk tx tl (I 290 5))).1 = true → z = 1 ∧ ∃ kd ld : Int, (0 ≤ kd ∧ kd ≤ 4) ∧ (0 ≤ ld ∧ ld ≤ 3) ∧ (itemR tx tl (tF (I 294) m.toNat) (sk tx tl (I 290 5))).2.2.2 = 1 + kd * 4 + ld ∧ I1 = u2 (u2 (u2 (u2 (u2 I 290 5 (itemR tx tl (tF (I 294) m.toNat) (sk tx tl (I 290 5))).2.1) 294 (3 * m) (itemR tx tl (tF (I 294) m.toNat) (sk tx tl (I 290 5))).2.2.1) 294 (3 * m + 1) kd) 294 (3 * m + 2) ld) 290 6 (m + 1))))) 0 0 137 [some (.inr (some 290)), some (.inl (kdO (nx tx tl (sk tx tl (I 290 5))))), some (.inl (sk tx tl ((sk tx tl (I 290 5)) + 1))), some (.inl (iP tx tl (sk tx tl ((sk tx tl (I 290 5)) + 1)))), none] [] (298, ShF, u2 I 290 5 (iE tx tl (sk tx tl ((sk tx tl (I 290 5)) + 1))), R) := by
    intro h8 hk1 hg
    have hpb := iP_bd hg
    have heb := iE_bd tx tl (sk tx tl ((sk tx tl (I 290 5)) + 1)) hnb hg
    have hqb := sk_bd tx tl (iE tx tl (sk tx tl ((sk tx tl (I 290 5)) + 1)))
    have hqn := hnb (sk tx tl (iE tx tl (sk tx tl ((sk tx tl (I 290 5)) + 1))))
    have hlb := ldO_bd (nx tx tl (sk tx tl (iE tx tl (sk tx tl ((sk tx tl (I 290 5)) + 1)))))
    have hI94 : u2 I 290 5 (iE tx tl (sk tx tl ((sk tx tl (I 290 5)) + 1))) 294 = I 294 := funext fun j => u2_n (Or.inl (by decide))
    refine r_iload_n dX8_readsItem_137 rfl ?_
    refine r_bipush dX8_readsItem_138 (by decide) ?_
    refine r_icmpgt (tgt := 151) dX8_readsItem_140 (by decide) (by omega) (by omega) (fun h140 => ?_) (fun h140 => ?_)
    · refine r_aload_n dX8_readsItem_151 rfl ?_
      refine r_iload_n dX8_readsItem_152 rfl ?_
      refine q_putI fl_X8_69 dX8_readsItem_153 sf_290 ?_
      rw [u2_u2]
      refine r_iconst dX8_readsItem_156 ?_
      refine q_zretZ dX8_readsItem_157 rfl (by decide) ?_
      have e : (itemR tx tl (tF (I 294) m.toNat) (sk tx tl (I 290 5))) = (false, (sk tx tl ((sk tx tl (I 290 5)) + 1)), 0, 0) := by
        unfold itemR
        rw [if_neg hk1, if_neg (fun q => q hg), if_pos (by omega)]
      rw [e]
      exact ⟨fun h => by omega, fun _ => ⟨fun _ => ⟨rfl, rfl⟩, fun h => Bool.noConfusion (show false = true from h)⟩⟩
    · refine r_aload_n dX8_readsItem_143 rfl ?_
      refine r_iload_n dX8_readsItem_144 rfl ?_
      refine q_callVF lk_X8_83 dX8_readsItem_145 (m_isTold _ R hRO m ((u2_n (Or.inr (by decide))).trans hm) hm8 (by rw [hI94]; exact h3) (iP tx tl (sk tx tl ((sk tx tl (I 290 5)) + 1))) (by omega)) (by decide) sf_290 rfl rfl (Nat.le_of_ble_eq_true rfl) (by decide) ?_
      rw [hI94]
      refine q_ifeqB (tgt := 158) dX8_readsItem_148 (by decide) (fun h148 => ?_) (fun h148 => ?_)
      · refine r_iload_n dX8_readsItem_158 rfl ?_
        refine r_iconst dX8_readsItem_159 ?_
        refine r_icmpne (tgt := 167) dX8_readsItem_160 (by decide) (by omega) (by omega) (fun h160 => ?_) (fun h160 => ?_)
        · refine r_aload_n dX8_readsItem_167 rfl ?_
          refine q_callVZ lk_X8_75 dX8_readsItem_168 (m_here _ R hRO tx tl (hT.at (iE tx tl (sk tx tl ((sk tx tl (I 290 5)) + 1)))) (by rw [u2_s]; omega)) (by decide) sf_290 rfl rfl (Nat.le_of_ble_eq_true rfl) (by decide) (fun z6 I6 hz6 => ?_)
          obtain ⟨rfl, rfl⟩ := hz6
          rw [u2_s, u2_u2]
          refine q_callSF lk_X8_86 dX8_readsItem_171 (m_leaderOf _ R (nx tx tl (sk tx tl (iE tx tl (sk tx tl ((sk tx tl (I 290 5)) + 1))))) (by omega)) (by decide) rfl rfl (Nat.le_of_ble_eq_true rfl) (by decide) ?_
          refine r_istore dX8_readsItem_174 (by decide) ?_
          dsimp only [lset]
          refine r_aload_n dX8_readsItem_176 rfl ?_
          refine r_dup dX8_readsItem_177 ?_
          refine q_getI fl_X8_69 dX8_readsItem_178 sf_290 ?_
          rw [u2_s]
          refine r_iload dX8_readsItem_181 rfl ?_
          refine r_ifle (tgt := 190) dX8_readsItem_183 (by decide) (by omega) (fun h183 => ?_) (fun h183 => ?_)
          · refine r_iconst dX8_readsItem_190 ?_
            refine r_iadd dX8_readsItem_191 ?_
            refine q_putI fl_X8_69 dX8_readsItem_192 sf_290 ?_
            rw [u2_u2]
            have hcond : ¬ (80 < (iP tx tl (sk tx tl ((sk tx tl (I 290 5)) + 1))) ∨ tF (I 294) m.toNat (iP tx tl (sk tx tl ((sk tx tl (I 290 5)) + 1))) ≠ 0) := by omega
            first
              | (have hL : (iL tx tl (kdO (nx tx tl (sk tx tl (I 290 5)))) (sk tx tl (iE tx tl (sk tx tl ((sk tx tl (I 290 5)) + 1))))) = 0 := if_pos h160
                 have hR : (iR tx tl (kdO (nx tx tl (sk tx tl (I 290 5)))) (sk tx tl (iE tx tl (sk tx tl ((sk tx tl (I 290 5)) + 1))))) = (sk tx tl (iE tx tl (sk tx tl ((sk tx tl (I 290 5)) + 1)))) := if_pos hL
                 have h := h195 h8 hk1 hg hcond (sk tx tl ((sk tx tl (I 290 5)) + 1)) ((iE tx tl (sk tx tl ((sk tx tl (I 290 5)) + 1))) + 0) (by omega) (by rw [Int.add_zero, hR])
                 rw [hL] at h
                 exact h)
              | (have hL : (iL tx tl (kdO (nx tx tl (sk tx tl (I 290 5)))) (sk tx tl (iE tx tl (sk tx tl ((sk tx tl (I 290 5)) + 1))))) = ldO (nx tx tl (sk tx tl (iE tx tl (sk tx tl ((sk tx tl (I 290 5)) + 1))))) := if_neg h160
                 have hR : (iR tx tl (kdO (nx tx tl (sk tx tl (I 290 5)))) (sk tx tl (iE tx tl (sk tx tl ((sk tx tl (I 290 5)) + 1))))) = (sk tx tl (iE tx tl (sk tx tl ((sk tx tl (I 290 5)) + 1)))) := if_pos (hL.trans (by omega))
                 have h := h195 h8 hk1 hg hcond (sk tx tl ((sk tx tl (I 290 5)) + 1)) ((sk tx tl (iE tx tl (sk tx tl ((sk tx tl (I 290 5)) + 1)))) + 0) (by omega) (by rw [Int.add_zero, hR]; exact sk_sk (by omega) (by omega))
                 rw [hL] at h
                 exact h)
              | (have hL : (iL tx tl (kdO (nx tx tl (sk tx tl (I 290 5)))) (sk tx tl (iE tx tl (sk tx tl ((sk tx tl (I 290 5)) + 1))))) = ldO (nx tx tl (sk tx tl (iE tx tl (sk tx tl ((sk tx tl (I 290 5)) + 1))))) := if_neg h160
                 have hR : (iR tx tl (kdO (nx tx tl (sk tx tl (I 290 5)))) (sk tx tl (iE tx tl (sk tx tl ((sk tx tl (I 290 5)) + 1))))) = sk tx tl ((sk tx tl (iE tx tl (sk tx tl ((sk tx tl (I 290 5)) + 1)))) + 1) := if_neg (fun q => by rw [hL] at q; omega)
                 have h := h195 h8 hk1 hg hcond (sk tx tl ((sk tx tl (I 290 5)) + 1)) ((sk tx tl (iE tx tl (sk tx tl ((sk tx tl (I 290 5)) + 1)))) + 1) (by omega) hR.symm
                 rw [hL] at h
                 exact h)
          · refine r_iconst dX8_readsItem_186 ?_
            refine r_goto (tgt := 191) dX8_readsItem_187 (by decide) ?_
            refine r_iadd dX8_readsItem_191 ?_
            refine q_putI fl_X8_69 dX8_readsItem_192 sf_290 ?_
            rw [u2_u2]
            have hcond : ¬ (80 < (iP tx tl (sk tx tl ((sk tx tl (I 290 5)) + 1))) ∨ tF (I 294) m.toNat (iP tx tl (sk tx tl ((sk tx tl (I 290 5)) + 1))) ≠ 0) := by omega
            first
              | (have hL : (iL tx tl (kdO (nx tx tl (sk tx tl (I 290 5)))) (sk tx tl (iE tx tl (sk tx tl ((sk tx tl (I 290 5)) + 1))))) = 0 := if_pos h160
                 have hR : (iR tx tl (kdO (nx tx tl (sk tx tl (I 290 5)))) (sk tx tl (iE tx tl (sk tx tl ((sk tx tl (I 290 5)) + 1))))) = (sk tx tl (iE tx tl (sk tx tl ((sk tx tl (I 290 5)) + 1)))) := if_pos hL
                 have h := h195 h8 hk1 hg hcond (sk tx tl ((sk tx tl (I 290 5)) + 1)) ((iE tx tl (sk tx tl ((sk tx tl (I 290 5)) + 1))) + 0) (by omega) (by rw [Int.add_zero, hR])
                 rw [hL] at h
                 exact h)
              | (have hL : (iL tx tl (kdO (nx tx tl (sk tx tl (I 290 5)))) (sk tx tl (iE tx tl (sk tx tl ((sk tx tl (I 290 5)) + 1))))) = ldO (nx tx tl (sk tx tl (iE tx tl (sk tx tl ((sk tx tl (I 290 5)) + 1))))) := if_neg h160
                 have hR : (iR tx tl (kdO (nx tx tl (sk tx tl (I 290 5)))) (sk tx tl (iE tx tl (sk tx tl ((sk tx tl (I 290 5)) + 1))))) = (sk tx tl (iE tx tl (sk tx tl ((sk tx tl (I 290 5)) + 1)))) := if_pos (hL.trans (by omega))
                 have h := h195 h8 hk1 hg hcond (sk tx tl ((sk tx tl (I 290 5)) + 1)) ((sk tx tl (iE tx tl (sk tx tl ((sk tx tl (I 290 5)) + 1)))) + 0) (by omega) (by rw [Int.add_zero, hR]; exact sk_sk (by omega) (by omega))
                 rw [hL] at h
                 exact h)
              | (have hL : (iL tx tl (kdO (nx tx tl (sk tx tl (I 290 5)))) (sk tx tl (iE tx tl (sk tx tl ((sk tx tl (I 290 5)) + 1))))) = ldO (nx tx tl (sk tx tl (iE tx tl (sk tx tl ((sk tx tl (I 290 5)) + 1))))) := if_neg h160
                 have hR : (iR tx tl (kdO (nx tx tl (sk tx tl (I 290 5)))) (sk tx tl (iE tx tl (sk tx tl ((sk tx tl (I 290 5)) + 1))))) = sk tx tl ((sk tx tl (iE tx tl (sk tx tl ((sk tx tl (I 290 5)) + 1)))) + 1) := if_neg (fun q => by rw [hL] at q; omega)
                 have h := h195 h8 hk1 hg hcond (sk tx tl ((sk tx tl (I 290 5)) + 1)) ((sk tx tl (iE tx tl (sk tx tl ((sk tx tl (I 290 5)) + 1)))) + 1) (by omega) hR.symm
                 rw [hL] at h
                 exact h)
        · refine r_iconst dX8_readsItem_163 ?_
          refine r_goto (tgt := 174) dX8_readsItem_164 (by decide) ?_
          refine r_istore dX8_readsItem_174 (by decide) ?_
          dsimp only [lset]
          refine r_aload_n dX8_readsItem_176 rfl ?_
          refine r_dup dX8_readsItem_177 ?_
          refine q_getI fl_X8_69 dX8_readsItem_178 sf_290 ?_
          rw [u2_s]
          refine r_iload dX8_readsItem_181 rfl ?_
          refine r_ifle (tgt := 190) dX8_readsItem_183 (by decide) (by decide) (fun _ => ?_) (fun h => absurd h (by decide))
          refine r_iconst dX8_readsItem_190 ?_
          refine r_iadd dX8_readsItem_191 ?_
          refine q_putI fl_X8_69 dX8_readsItem_192 sf_290 ?_
          rw [u2_u2]
          have hcond : ¬ (80 < (iP tx tl (sk tx tl ((sk tx tl (I 290 5)) + 1))) ∨ tF (I 294) m.toNat (iP tx tl (sk tx tl ((sk tx tl (I 290 5)) + 1))) ≠ 0) := by omega
          first
            | (have hL : (iL tx tl (kdO (nx tx tl (sk tx tl (I 290 5)))) (sk tx tl (iE tx tl (sk tx tl ((sk tx tl (I 290 5)) + 1))))) = 0 := if_pos h160
               have hR : (iR tx tl (kdO (nx tx tl (sk tx tl (I 290 5)))) (sk tx tl (iE tx tl (sk tx tl ((sk tx tl (I 290 5)) + 1))))) = (sk tx tl (iE tx tl (sk tx tl ((sk tx tl (I 290 5)) + 1)))) := if_pos hL
               have h := h195 h8 hk1 hg hcond (sk tx tl ((sk tx tl (I 290 5)) + 1)) ((iE tx tl (sk tx tl ((sk tx tl (I 290 5)) + 1))) + 0) (by omega) (by rw [Int.add_zero, hR])
               rw [hL] at h
               exact h)
            | (have hL : (iL tx tl (kdO (nx tx tl (sk tx tl (I 290 5)))) (sk tx tl (iE tx tl (sk tx tl ((sk tx tl (I 290 5)) + 1))))) = ldO (nx tx tl (sk tx tl (iE tx tl (sk tx tl ((sk tx tl (I 290 5)) + 1))))) := if_neg h160
               have hR : (iR tx tl (kdO (nx tx tl (sk tx tl (I 290 5)))) (sk tx tl (iE tx tl (sk tx tl ((sk tx tl (I 290 5)) + 1))))) = (sk tx tl (iE tx tl (sk tx tl ((sk tx tl (I 290 5)) + 1)))) := if_pos (hL.trans (by omega))
               have h := h195 h8 hk1 hg hcond (sk tx tl ((sk tx tl (I 290 5)) + 1)) ((sk tx tl (iE tx tl (sk tx tl ((sk tx tl (I 290 5)) + 1)))) + 0) (by omega) (by rw [Int.add_zero, hR]; exact sk_sk (by omega) (by omega))
               rw [hL] at h
               exact h)
            | (have hL : (iL tx tl (kdO (nx tx tl (sk tx tl (I 290 5)))) (sk tx tl (iE tx tl (sk tx tl ((sk tx tl (I 290 5)) + 1))))) = ldO (nx tx tl (sk tx tl (iE tx tl (sk tx tl ((sk tx tl (I 290 5)) + 1))))) := if_neg h160
               have hR : (iR tx tl (kdO (nx tx tl (sk tx tl (I 290 5)))) (sk tx tl (iE tx tl (sk tx tl ((sk tx tl (I 290 5)) + 1))))) = sk tx tl ((sk tx tl (iE tx tl (sk tx tl ((sk tx tl (I 290 5)) + 1)))) + 1) := if_neg (fun q => by rw [hL] at q; omega)
               have h := h195 h8 hk1 hg hcond (sk tx tl ((sk tx tl (I 290 5)) + 1)) ((sk tx tl (iE tx tl (sk tx tl ((sk tx tl (I 290 5)) + 1)))) + 1) (by omega) hR.symm
               rw [hL] at h
               exact h)
      · refine r_aload_n dX8_readsItem_151 rfl ?_
        refine r_iload_n dX8_readsItem_152 rfl ?_
        refine q_putI fl_X8_69 dX8_readsItem_153 sf_290 ?_
        rw [u2_u2]
        refine r_iconst dX8_readsItem_156 ?_
        refine q_zretZ dX8_readsItem_157 rfl (by decide) ?_
        have e : (itemR tx tl (tF (I 294) m.toNat) (sk tx tl (I 290 5))) = (false, (sk tx tl ((sk tx tl (I 290 5)) + 1)), 0, 0) := by
          unfold itemR
          rw [if_neg hk1, if_neg (fun q => q hg), if_pos (by omega)]
        rw [e]
        exact ⟨fun h => by omega, fun _ => ⟨fun _ => ⟨rfl, rfl⟩, fun h => Bool.noConfusion (show false = true from h)⟩⟩
  refine CC_of (own := RX8) (ini := false) (by decide +kernel) rfl (fun h => absurd h (by decide)) (Nat.le_of_ble_eq_true rfl) ?_
  show WW cX8_readsItem RX8 5 (some .boolean) false 2 0 0 (PZ R (fun z I1 => (m = 8 → z = 0 ∧ I1 = u2 I 290 5 (sk tx tl (I 290 5))) ∧ (m ≠ 8 → ((itemR tx tl (tF (I 294) m.toNat) (sk tx tl (I 290 5))).1 = false → z = 0 ∧ I1 = u2 I 290 5 (itemR tx tl (tF (I 294) m.toNat) (sk tx tl (I 290 5))).2.1) ∧ ((itemR tx tl (tF (I 294) m.toNat) (sk tx tl (I 290 5))).1 = true → z = 1 ∧ ∃ kd ld : Int, (0 ≤ kd ∧ kd ≤ 4) ∧ (0 ≤ ld ∧ ld ≤ 3) ∧ (itemR tx tl (tF (I 294) m.toNat) (sk tx tl (I 290 5))).2.2.2 = 1 + kd * 4 + ld ∧ I1 = u2 (u2 (u2 (u2 (u2 I 290 5 (itemR tx tl (tF (I 294) m.toNat) (sk tx tl (I 290 5))).2.1) 294 (3 * m) (itemR tx tl (tF (I 294) m.toNat) (sk tx tl (I 290 5))).2.2.1) 294 (3 * m + 1) kd) 294 (3 * m + 2) ld) 290 6 (m + 1))))) 0 0 0 [some (.inr (some 290)), none, none, none, none] [] (298, ShF, I, R)
  refine r_aload_n dX8_readsItem_0 rfl ?_
  refine q_callVZ lk_X8_75 dX8_readsItem_1 (m_here I R hRO tx tl hT hat) (by decide) sf_290 rfl rfl (Nat.le_of_ble_eq_true rfl) (by decide) (fun z1 I1 hz1 => ?_)
  obtain ⟨rfl, rfl⟩ := hz1
  refine q_callSF lk_X8_79 dX8_readsItem_4 (m_kindOf _ R (nx tx tl (sk tx tl (I 290 5))) (by omega)) (by decide) rfl rfl (Nat.le_of_ble_eq_true rfl) (by decide) ?_
  have hkk : (if kdO (nx tx tl (sk tx tl (I 290 5))) = -1 then (-9 : Int) else kdO (nx tx tl (sk tx tl (I 290 5)))) = -9 ↔ kdO (nx tx tl (sk tx tl (I 290 5))) = -1 := by
    split <;> omega
  generalize hkg : (if kdO (nx tx tl (sk tx tl (I 290 5))) = -1 then (-9 : Int) else kdO (nx tx tl (sk tx tl (I 290 5)))) = kq at hkk
  have hkr : -9 ≤ kq ∧ kq ≤ 4 := by
    rw [← hkg]
    split <;> omega
  refine r_istore_n dX8_readsItem_7 (by decide) ?_
  dsimp only [lset]
  refine r_iload_n dX8_readsItem_8 rfl ?_
  refine r_bipush dX8_readsItem_9 (by decide) ?_
  refine r_icmpeq (tgt := 23) dX8_readsItem_11 (by decide) (by omega) (by omega) (fun h11 => ?_) (fun h11 => ?_)
  · refine r_iconst dX8_readsItem_23 ?_
    refine q_zretZ dX8_readsItem_24 rfl (by decide) ?_
    by_cases hm80 : m = 8
    · refine ⟨fun _ => ⟨rfl, rfl⟩, fun h => absurd hm80 h⟩
    · have hk1 : (kdO (nx tx tl (sk tx tl (I 290 5)))) = -1 := by omega
      have e : (itemR tx tl (tF (I 294) m.toNat) (sk tx tl (I 290 5))) = (false, (sk tx tl (I 290 5)), 0, 0) := by
        unfold itemR
        rw [if_pos hk1]
      rw [e]
      exact ⟨fun h => by omega, fun _ => ⟨fun _ => ⟨rfl, rfl⟩, fun h => Bool.noConfusion (show false = true from h)⟩⟩
  · refine r_aload_n dX8_readsItem_14 rfl ?_
    refine q_getI fl_X8_72 dX8_readsItem_15 sf_290 ?_
    rw [u2_n (Or.inr (by decide)), hm]
    refine r_bipush dX8_readsItem_18 (by decide) ?_
    refine r_icmpne (tgt := 25) dX8_readsItem_20 (by decide) (by omega) (by omega) (fun h20 => ?_) (fun h20 => ?_)
    · have hk1 : (kdO (nx tx tl (sk tx tl (I 290 5)))) ≠ -1 := by omega
      have hke : kq = (kdO (nx tx tl (sk tx tl (I 290 5)))) := by rw [← hkg, if_neg hk1]
      rw [hke]
      refine r_aload_n dX8_readsItem_25 rfl ?_
      refine r_dup dX8_readsItem_26 ?_
      refine q_getI fl_X8_69 dX8_readsItem_27 sf_290 ?_
      rw [u2_s]
      refine r_iconst dX8_readsItem_30 ?_
      refine r_iadd dX8_readsItem_31 ?_
      refine q_putI fl_X8_69 dX8_readsItem_32 sf_290 ?_
      rw [u2_u2]
      refine r_aload_n dX8_readsItem_35 rfl ?_
      refine q_callVZ lk_X8_75 dX8_readsItem_36 (m_here _ R hRO tx tl (hT.at ((sk tx tl (I 290 5)) + 1)) (by rw [u2_s]; omega)) (by decide) sf_290 rfl rfl (Nat.le_of_ble_eq_true rfl) (by decide) (fun z2 I2 hz2 => ?_)
      obtain ⟨rfl, rfl⟩ := hz2
      rw [u2_s, u2_u2]
      refine r_bipush dX8_readsItem_39 (by decide) ?_
      refine r_bipush dX8_readsItem_41 (by decide) ?_
      refine q_callSF lk_X8_36 dX8_readsItem_43 (c_in _ R (nx tx tl (sk tx tl ((sk tx tl (I 290 5)) + 1))) 49 57 (by omega) (by decide) (by decide)) (by decide) rfl rfl (Nat.le_of_ble_eq_true rfl) (by decide) ?_
      refine q_ifneB (tgt := 51) dX8_readsItem_46 (by decide) (fun h46 => ?_) (fun h46 => ?_)
      · refine r_aload_n dX8_readsItem_51 rfl ?_
        refine q_getI fl_X8_69 dX8_readsItem_52 sf_290 ?_
        rw [u2_s]
        have hs2 := hnb ((sk tx tl ((sk tx tl (I 290 5)) + 1)) + 1)
        refine r_istore_n dX8_readsItem_55 (by decide) ?_
        dsimp only [lset]
        refine r_aload_n dX8_readsItem_56 rfl ?_
        refine q_getR fl_X8_16 dX8_readsItem_57 sf_290 (ro_290_3 hRO) ?_
        refine r_aload_n dX8_readsItem_60 rfl ?_
        refine q_getI fl_X8_69 dX8_readsItem_61 sf_290 ?_
        rw [u2_s]
        refine q_bald dX8_readsItem_64 sf_293 (by omega) ?_
        have hb8 := htx (sk tx tl ((sk tx tl (I 290 5)) + 1)) (by omega) (by omega)
        have hbe := bm_eq (tx (sk tx tl ((sk tx tl (I 290 5)) + 1))) hb8.2
        have hbm := bm_in (tx (sk tx tl ((sk tx tl (I 290 5)) + 1)))
        have hrd : ∀ v : Int, u2 I 290 5 v 293 (sk tx tl ((sk tx tl (I 290 5)) + 1)) = (tx (sk tx tl ((sk tx tl (I 290 5)) + 1))).bmod 256 := fun v => (u2_n (Or.inl (by decide))).trans hb8.1
        have hnx : nx tx tl (sk tx tl ((sk tx tl (I 290 5)) + 1)) = tx (sk tx tl ((sk tx tl (I 290 5)) + 1)) := if_pos (by omega)
        rw [hrd]
        refine r_bipush dX8_readsItem_65 (by decide) ?_
        refine r_isub dX8_readsItem_67 ?_
        refine r_istore_n dX8_readsItem_68 (by decide) ?_
        dsimp only [lset]
        refine r_aload_n dX8_readsItem_69 rfl ?_
        refine r_dup dX8_readsItem_70 ?_
        refine q_getI fl_X8_69 dX8_readsItem_71 sf_290 ?_
        rw [u2_s]
        refine r_iconst dX8_readsItem_74 ?_
        refine r_iadd dX8_readsItem_75 ?_
        refine q_putI fl_X8_69 dX8_readsItem_76 sf_290 ?_
        rw [u2_u2]
        refine r_aload_n dX8_readsItem_79 rfl ?_
        refine q_getI fl_X8_69 dX8_readsItem_80 sf_290 ?_
        rw [u2_s]
        refine r_aload_n dX8_readsItem_83 rfl ?_
        refine q_getI fl_X8_66 dX8_readsItem_84 sf_290 ?_
        rw [u2_n (Or.inr (by decide)), htt]
        refine r_icmpge (tgt := 137) dX8_readsItem_87 (by decide) (by omega) (by omega) (fun h87 => ?_) (fun h87 => ?_)
        · have h := h137 (by omega) hk1 h46
          first
            | (have hd : (48 ≤ nx tx tl ((sk tx tl ((sk tx tl (I 290 5)) + 1)) + 1) ∧ nx tx tl ((sk tx tl ((sk tx tl (I 290 5)) + 1)) + 1) ≤ 57) := by rw [hcx]; omega
               have hP : (iP tx tl (sk tx tl ((sk tx tl (I 290 5)) + 1))) = 10 * (nx tx tl (sk tx tl ((sk tx tl (I 290 5)) + 1)) - 48) + (nx tx tl ((sk tx tl ((sk tx tl (I 290 5)) + 1)) + 1) - 48) := if_pos hd
               have hE : (iE tx tl (sk tx tl ((sk tx tl (I 290 5)) + 1))) = (sk tx tl ((sk tx tl (I 290 5)) + 1)) + 2 := if_pos hd
               have h1 : (10 : Int) * ((tx (sk tx tl ((sk tx tl (I 290 5)) + 1))).bmod 256 - 48) + (tx ((sk tx tl ((sk tx tl (I 290 5)) + 1)) + 1)).bmod 256 - 48 = (iP tx tl (sk tx tl ((sk tx tl (I 290 5)) + 1))) := by rw [hP]; omega
               have h2 : (sk tx tl ((sk tx tl (I 290 5)) + 1)) + 1 + 1 = (iE tx tl (sk tx tl ((sk tx tl (I 290 5)) + 1))) := by rw [hE]; omega
               rw [h1, h2]
               exact h)
            | (have hd : ¬ (48 ≤ nx tx tl ((sk tx tl ((sk tx tl (I 290 5)) + 1)) + 1) ∧ nx tx tl ((sk tx tl ((sk tx tl (I 290 5)) + 1)) + 1) ≤ 57) := by omega
               have hP : (iP tx tl (sk tx tl ((sk tx tl (I 290 5)) + 1))) = nx tx tl (sk tx tl ((sk tx tl (I 290 5)) + 1)) - 48 := if_neg hd
               have hE : (iE tx tl (sk tx tl ((sk tx tl (I 290 5)) + 1))) = (sk tx tl ((sk tx tl (I 290 5)) + 1)) + 1 := if_neg hd
               have h1 : (tx (sk tx tl ((sk tx tl (I 290 5)) + 1))).bmod 256 - 48 = (iP tx tl (sk tx tl ((sk tx tl (I 290 5)) + 1))) := by rw [hP]; omega
               rw [h1, ← hE]
               exact h)
        · refine r_aload_n dX8_readsItem_90 rfl ?_
          refine q_getR fl_X8_16 dX8_readsItem_91 sf_290 (ro_290_3 hRO) ?_
          refine r_aload_n dX8_readsItem_94 rfl ?_
          refine q_getI fl_X8_69 dX8_readsItem_95 sf_290 ?_
          rw [u2_s]
          refine q_bald dX8_readsItem_98 sf_293 (by omega) ?_
          have hc8 := htx ((sk tx tl ((sk tx tl (I 290 5)) + 1)) + 1) (by omega) (by omega)
          have hce := bm_eq (tx ((sk tx tl ((sk tx tl (I 290 5)) + 1)) + 1)) hc8.2
          have hcm := bm_in (tx ((sk tx tl ((sk tx tl (I 290 5)) + 1)) + 1))
          have hrc : ∀ v : Int, u2 I 290 5 v 293 ((sk tx tl ((sk tx tl (I 290 5)) + 1)) + 1) = (tx ((sk tx tl ((sk tx tl (I 290 5)) + 1)) + 1)).bmod 256 := fun v => (u2_n (Or.inl (by decide))).trans hc8.1
          have hcx : nx tx tl ((sk tx tl ((sk tx tl (I 290 5)) + 1)) + 1) = tx ((sk tx tl ((sk tx tl (I 290 5)) + 1)) + 1) := if_pos (by omega)
          rw [hrc]
          refine r_bipush dX8_readsItem_99 (by decide) ?_
          refine r_bipush dX8_readsItem_101 (by decide) ?_
          refine q_callSF lk_X8_36 dX8_readsItem_103 (c_in _ R ((tx ((sk tx tl ((sk tx tl (I 290 5)) + 1)) + 1)).bmod 256) 48 57 (by omega) (by decide) (by decide)) (by decide) rfl rfl (Nat.le_of_ble_eq_true rfl) (by decide) ?_
          refine q_ifeqB (tgt := 137) dX8_readsItem_106 (by decide) (fun h106 => ?_) (fun h106 => ?_)
          · have h := h137 (by omega) hk1 h46
            first
              | (have hd : (48 ≤ nx tx tl ((sk tx tl ((sk tx tl (I 290 5)) + 1)) + 1) ∧ nx tx tl ((sk tx tl ((sk tx tl (I 290 5)) + 1)) + 1) ≤ 57) := by rw [hcx]; omega
                 have hP : (iP tx tl (sk tx tl ((sk tx tl (I 290 5)) + 1))) = 10 * (nx tx tl (sk tx tl ((sk tx tl (I 290 5)) + 1)) - 48) + (nx tx tl ((sk tx tl ((sk tx tl (I 290 5)) + 1)) + 1) - 48) := if_pos hd
                 have hE : (iE tx tl (sk tx tl ((sk tx tl (I 290 5)) + 1))) = (sk tx tl ((sk tx tl (I 290 5)) + 1)) + 2 := if_pos hd
                 have h1 : (10 : Int) * ((tx (sk tx tl ((sk tx tl (I 290 5)) + 1))).bmod 256 - 48) + (tx ((sk tx tl ((sk tx tl (I 290 5)) + 1)) + 1)).bmod 256 - 48 = (iP tx tl (sk tx tl ((sk tx tl (I 290 5)) + 1))) := by rw [hP]; omega
                 have h2 : (sk tx tl ((sk tx tl (I 290 5)) + 1)) + 1 + 1 = (iE tx tl (sk tx tl ((sk tx tl (I 290 5)) + 1))) := by rw [hE]; omega
                 rw [h1, h2]
                 exact h)
              | (have hd : ¬ (48 ≤ nx tx tl ((sk tx tl ((sk tx tl (I 290 5)) + 1)) + 1) ∧ nx tx tl ((sk tx tl ((sk tx tl (I 290 5)) + 1)) + 1) ≤ 57) := by omega
                 have hP : (iP tx tl (sk tx tl ((sk tx tl (I 290 5)) + 1))) = nx tx tl (sk tx tl ((sk tx tl (I 290 5)) + 1)) - 48 := if_neg hd
                 have hE : (iE tx tl (sk tx tl ((sk tx tl (I 290 5)) + 1))) = (sk tx tl ((sk tx tl (I 290 5)) + 1)) + 1 := if_neg hd
                 have h1 : (tx (sk tx tl ((sk tx tl (I 290 5)) + 1))).bmod 256 - 48 = (iP tx tl (sk tx tl ((sk tx tl (I 290 5)) + 1))) := by rw [hP]; omega
                 rw [h1, ← hE]
                 exact h)
          · refine r_bipush dX8_readsItem_109 (by decide) ?_
            refine r_iload_n dX8_readsItem_111 rfl ?_
            refine r_imul dX8_readsItem_112 ?_
            refine r_aload_n dX8_readsItem_113 rfl ?_
            refine q_getR fl_X8_16 dX8_readsItem_114 sf_290 (ro_290_3 hRO) ?_
            refine r_aload_n dX8_readsItem_117 rfl ?_
            refine q_getI fl_X8_69 dX8_readsItem_118 sf_290 ?_
            rw [u2_s]
            refine q_bald dX8_readsItem_121 sf_293 (by omega) ?_
            rw [hrc]
            refine r_iadd dX8_readsItem_122 ?_
            refine r_bipush dX8_readsItem_123 (by decide) ?_
            refine r_isub dX8_readsItem_125 ?_
            refine r_istore_n dX8_readsItem_126 (by decide) ?_
            dsimp only [lset]
            refine r_aload_n dX8_readsItem_127 rfl ?_
            refine r_dup dX8_readsItem_128 ?_
            refine q_getI fl_X8_69 dX8_readsItem_129 sf_290 ?_
            rw [u2_s]
            refine r_iconst dX8_readsItem_132 ?_
            refine r_iadd dX8_readsItem_133 ?_
            refine q_putI fl_X8_69 dX8_readsItem_134 sf_290 ?_
            rw [u2_u2]
            have h := h137 (by omega) hk1 h46
            first
              | (have hd : (48 ≤ nx tx tl ((sk tx tl ((sk tx tl (I 290 5)) + 1)) + 1) ∧ nx tx tl ((sk tx tl ((sk tx tl (I 290 5)) + 1)) + 1) ≤ 57) := by rw [hcx]; omega
                 have hP : (iP tx tl (sk tx tl ((sk tx tl (I 290 5)) + 1))) = 10 * (nx tx tl (sk tx tl ((sk tx tl (I 290 5)) + 1)) - 48) + (nx tx tl ((sk tx tl ((sk tx tl (I 290 5)) + 1)) + 1) - 48) := if_pos hd
                 have hE : (iE tx tl (sk tx tl ((sk tx tl (I 290 5)) + 1))) = (sk tx tl ((sk tx tl (I 290 5)) + 1)) + 2 := if_pos hd
                 have h1 : (10 : Int) * ((tx (sk tx tl ((sk tx tl (I 290 5)) + 1))).bmod 256 - 48) + (tx ((sk tx tl ((sk tx tl (I 290 5)) + 1)) + 1)).bmod 256 - 48 = (iP tx tl (sk tx tl ((sk tx tl (I 290 5)) + 1))) := by rw [hP]; omega
                 have h2 : (sk tx tl ((sk tx tl (I 290 5)) + 1)) + 1 + 1 = (iE tx tl (sk tx tl ((sk tx tl (I 290 5)) + 1))) := by rw [hE]; omega
                 rw [h1, h2]
                 exact h)
              | (have hd : ¬ (48 ≤ nx tx tl ((sk tx tl ((sk tx tl (I 290 5)) + 1)) + 1) ∧ nx tx tl ((sk tx tl ((sk tx tl (I 290 5)) + 1)) + 1) ≤ 57) := by omega
                 have hP : (iP tx tl (sk tx tl ((sk tx tl (I 290 5)) + 1))) = nx tx tl (sk tx tl ((sk tx tl (I 290 5)) + 1)) - 48 := if_neg hd
                 have hE : (iE tx tl (sk tx tl ((sk tx tl (I 290 5)) + 1))) = (sk tx tl ((sk tx tl (I 290 5)) + 1)) + 1 := if_neg hd
                 have h1 : (tx (sk tx tl ((sk tx tl (I 290 5)) + 1))).bmod 256 - 48 = (iP tx tl (sk tx tl ((sk tx tl (I 290 5)) + 1))) := by rw [hP]; omega
                 rw [h1, ← hE]
                 exact h)
      · refine r_iconst dX8_readsItem_49 ?_
        refine q_zretZ dX8_readsItem_50 rfl (by decide) ?_
        have e : (itemR tx tl (tF (I 294) m.toNat) (sk tx tl (I 290 5))) = (false, (sk tx tl ((sk tx tl (I 290 5)) + 1)), 0, 0) := by
          unfold itemR
          rw [if_neg hk1, if_pos h46]
        rw [e]
        exact ⟨fun h => by omega, fun _ => ⟨fun _ => ⟨rfl, rfl⟩, fun h => Bool.noConfusion (show false = true from h)⟩⟩
    · refine r_iconst dX8_readsItem_23 ?_
      refine q_zretZ dX8_readsItem_24 rfl (by decide) ?_
      by_cases hm80 : m = 8
      · refine ⟨fun _ => ⟨rfl, rfl⟩, fun h => absurd hm80 h⟩
      · have hk1 : (kdO (nx tx tl (sk tx tl (I 290 5)))) = -1 := by omega
        have e : (itemR tx tl (tF (I 294) m.toNat) (sk tx tl (I 290 5))) = (false, (sk tx tl (I 290 5)), 0, 0) := by
          unfold itemR
          rw [if_pos hk1]
        rw [e]
        exact ⟨fun h => by omega, fun _ => ⟨fun _ => ⟨rfl, rfl⟩, fun h => Bool.noConfusion (show false = true from h)⟩⟩
