/-! the law's body, piece by piece -/
section LB
variable {sb b : Nat} {J : Nat → List (Nat × Value) → List Value → Wd → Prop} {a : AS}
set_option maxHeartbeats 4000000 in
set_option maxRecDepth 100000 in
theorem lb_undo (hJ : KOk code "TabLinesLaw" 19 9 b J) (hA : AbsOk a) {e x z s0 : Int} (hz : 0 ≤ z ∧ z ≤ 1000) (hx : -2147483648 ≤ x ∧ x ≤ 2147483647) {σ : CS} (hE : ∀ (a2 : AS) (w : Wd), WA a2 w → J 120 [(0, .ref sb), (1, .ref (b + 0)), (2, vi ((a2.2.1 : Int))), (3, vi e)] [] w) {w : Wd} (hw : WA (wS (psh a) σ) w) : J 79 [(0, .ref sb), (1, .ref (b + 0)), (3, vi e), (4, vi x), (5, .long (talF a)), (7, vi z), (2, vi s0)] [vi ((nS a.2.1 : Int))] w := by
  have hb := undo_back hA σ
  have h6 : nS a.2.1 ≤ 6 ∧ 1 ≤ nS a.2.1 := by
    have := hA.2.1
    unfold nS
    split <;> omega
  refine j_istore_n hJ [(2, vi ((nS a.2.1 : Int))), (0, .ref sb), (1, .ref (b + 0)), (3, vi e), (4, vi x), (5, .long (talF a)), (7, vi z)] dL_law_79 (by decide) rfl ?_
  refine j_iload hJ 6 dL_law_80 rfl ?_
  refine j_iflt hJ (tgt := 120) dL_law_82 (by decide) (by omega) (fun h82 => ?_) (fun h82 => ?_)
  · exfalso
    omega
  · refine j_iload hJ 4 dL_law_85 rfl ?_
    refine j_bipush hJ dL_law_87 (by decide) ?_
    refine j_ishr hJ dL_law_89 (fun x89 hx89 => ?_)
    refine j_iconst hJ dL_law_90 ?_
    refine j_iand hJ dL_law_91 (fun x91 hx91 => ?_)
    refine j_ifne hJ (tgt := 120) dL_law_92 (by decide) (by omega) (fun h92 => ?_) (fun h92 => ?_)
    · refine j_sub hJ [1, 2, 0, 3] rfl ?_
      exact hE _ _ hw
    · refine j_aload_n hJ 2 dL_law_95 rfl ?_
      refine j_callC hJ hw lk_L_85 dL_law_96 (fun I R π sg hI hA => k_undo I R π sg (wS (psh a) σ) hI hA) (fun h => h.undo) (by decide) rfl rfl (Nat.le_of_ble_eq_true rfl) (fun w96 hw96 => ?_)
      have hw96 : WA (aUndo (wS (psh a) σ)).2 w96 := hw96
      show J 99 [(2, vi ((nS a.2.1 : Int))), (0, .ref sb), (1, .ref (b + 0)), (3, vi e), (4, vi x), (5, .long (talF a)), (7, vi z)] [vi ((aUndo (wS (psh a) σ)).1)] w96
      rw [hb.1]
      refine j_iload_n hJ 0 dL_law_99 rfl ?_
      refine j_iconst hJ dL_law_100 ?_
      refine j_isub hJ dL_law_101 ?_
      refine j_icmpne hJ (tgt := 115) dL_law_102 (by decide) (by omega) (by omega) (fun h102 => ?_) (fun h102 => ?_)
      · exact absurd rfl h102
      · refine j_aload_n hJ 2 dL_law_105 rfl ?_
        refine j_tale hJ (by decide) hw96 lk_L_77 dL_law_106 (Nat.le_of_ble_eq_true rfl) (fun w106 hw106 => ?_)
        refine j_lload hJ 5 dL_law_109 rfl ?_
        refine j_lcmpeq hJ (tgt := 117) dL_law_111 dL_law_112 (by decide) (fun h111 => ?_) (fun h111 => ?_)
        · refine j_iinc hJ [(2, vi ((nS a.2.1 : Int) + (-1))), (0, .ref sb), (1, .ref (b + 0)), (3, vi e), (4, vi x), (5, .long (talF a)), (7, vi z)] 0 dL_law_117 rfl (by decide) rfl ?_
          refine j_sub hJ [1, 2, 0, 3] rfl ?_
          have e9 : (nS a.2.1 : Int) + (-1) = ((aUndo (wS (psh a) σ)).2.2.1 : Int) := by
            rw [hb.2.2]
            omega
          rw [e9]
          exact hE _ _ hw106
        · exact absurd (tal_same hb.2.1) h111
set_option maxHeartbeats 4000000 in
set_option maxRecDepth 100000 in
theorem lb_ops (hJ : KOk code "TabLinesLaw" 19 9 b J) {L : Nat} {xs : Nat → Int32} (hX : KOkX sb L xs b J) {e : Int} (he : 0 ≤ e ∧ e ≤ 35) (hE : ∀ (a2 : AS) (w : Wd), WA a2 w → J 120 [(0, .ref sb), (1, .ref (b + 0)), (2, vi ((a2.2.1 : Int))), (3, vi e)] [] w) {w : Wd} (hw : WA a w) : J 18 [(0, .ref sb), (1, .ref (b + 0)), (2, vi ((a.2.1 : Int))), (3, vi e)] [] w := by
  have hA := hw.1
  have h6 := hA.2.1
  refine j_aload_n hJ 0 dL_law_18 rfl ?_
  refine j_iload_n hJ 3 dL_law_19 rfl ?_
  refine j_cell hX (by omega) dL_law_20 (Nat.le_of_ble_eq_true rfl) (fun x hx => ?_)
  refine j_istore hJ [(4, vi x), (0, .ref sb), (1, .ref (b + 0)), (2, vi ((a.2.1 : Int))), (3, vi e)] dL_law_23 (by decide) rfl ?_
  refine j_aload_n hJ 2 dL_law_25 rfl ?_
  refine j_tale hJ (by decide) hw lk_L_77 dL_law_26 (Nat.le_of_ble_eq_true rfl) (fun w26 hw26 => ?_)
  refine j_lstore hJ [(5, .long (talF a)), (4, vi x), (0, .ref sb), (1, .ref (b + 0)), (2, vi ((a.2.1 : Int))), (3, vi e)] dL_law_29 (by decide) rfl ?_
  refine j_aload_n hJ 3 dL_law_31 rfl ?_
  refine j_iload hJ 1 dL_law_32 rfl ?_
  refine j_does hJ (by decide) hw26 hx lk_L_81 dL_law_34 (Nat.le_of_ble_eq_true rfl) (fun z a1 w34 hOp hw34 => ?_)
  have hz := hOp.1
  refine j_istore hJ [(7, vi z), (5, .long (talF a)), (4, vi x), (0, .ref sb), (1, .ref (b + 0)), (2, vi ((a.2.1 : Int))), (3, vi e)] dL_law_37 (by decide) rfl ?_
  refine j_iload hJ 0 dL_law_39 rfl ?_
  refine j_ifge hJ (tgt := 56) dL_law_41 (by decide) (by omega) (fun h41 => ?_) (fun h41 => ?_)
  · refine j_iload hJ 0 dL_law_56 rfl ?_
    refine j_ifge hJ (tgt := 65) dL_law_58 (by decide) (by omega) (fun h58 => ?_) (fun h58 => ?_)
    · obtain ⟨σ, hσ⟩ := hOp.2.2.2 (by omega)
      have hσ : a1 = wS (psh a) σ := hσ
      subst hσ
      refine j_iload_n hJ 5 dL_law_65 rfl ?_
      refine j_bipush hJ dL_law_66 (by decide) ?_
      refine j_icmpge hJ (tgt := 77) dL_law_68 (by decide) (by omega) (by omega) (fun h68 => ?_) (fun h68 => ?_)
      · have e6 : (6 : Int) = (nS a.2.1 : Int) := by
          unfold nS
          rw [if_pos (by omega)]
          rfl
        refine j_bipush hJ dL_law_77 (by decide) ?_
        refine j_sub hJ [3, 4, 6, 2, 1, 0, 5] rfl ?_
        rw [e6]
        exact lb_undo hJ hA (e := e) ⟨by omega, hz.2⟩ hx hE hw34
      · have e6 : (a.2.1 : Int) + 1 = (nS a.2.1 : Int) := by
          unfold nS
          rw [if_neg (by omega)]
          rfl
        refine j_iload_n hJ 5 dL_law_71 rfl ?_
        refine j_iconst hJ dL_law_72 ?_
        refine j_iadd hJ dL_law_73 ?_
        refine j_goto hJ (tgt := 79) dL_law_74 (by decide) ?_
        refine j_sub hJ [3, 4, 6, 2, 1, 0, 5] rfl ?_
        rw [e6]
        exact lb_undo hJ hA (e := e) ⟨by omega, hz.2⟩ hx hE hw34
    · exfalso
      omega
  · have ha1 : a = a1 := (hOp.2.2.1 (by omega)).symm
    subst ha1
    refine j_aload_n hJ 4 dL_law_44 rfl ?_
    refine j_tale hJ (by decide) hw34 lk_L_77 dL_law_45 (Nat.le_of_ble_eq_true rfl) (fun w45 hw45 => ?_)
    refine j_lload hJ 1 dL_law_48 rfl ?_
    refine j_lcmpeq hJ (tgt := 56) dL_law_50 dL_law_51 (by decide) (fun h50 => ?_) (fun h50 => ?_)
    · refine j_iload hJ 0 dL_law_56 rfl ?_
      refine j_ifge hJ (tgt := 65) dL_law_58 (by decide) (by omega) (fun h58 => ?_) (fun h58 => ?_)
      · exfalso
        omega
      · refine j_iload_n hJ 5 dL_law_61 rfl ?_
        refine j_goto hJ (tgt := 79) dL_law_62 (by decide) ?_
        refine j_istore_n hJ [(2, vi ((a.2.1 : Int))), (7, vi z), (5, .long (talF a)), (4, vi x), (0, .ref sb), (1, .ref (b + 0)), (3, vi e)] dL_law_79 (by decide) rfl ?_
        refine j_iload hJ 1 dL_law_80 rfl ?_
        refine j_iflt hJ (tgt := 120) dL_law_82 (by decide) (by omega) (fun h82 => ?_) (fun h82 => ?_)
        · refine j_sub hJ [4, 5, 0, 6] rfl ?_
          exact hE _ _ hw45
        · exfalso
          omega
    · exact absurd rfl h50
set_option maxHeartbeats 4000000 in
set_option maxRecDepth 100000 in
theorem lb_chars (hJ : KOk code "TabLinesLaw" 19 9 b J) (hA : AbsOk a) {k s0 e ls : Int} (hk : 0 ≤ k ∧ k ≤ a.1.1.2.2 - 1) {w : Wd} (hw : WA a w) (hE : J 227 [(0, .ref sb), (1, .ref (b + 0)), (2, vi s0), (3, vi e), (8, vi ls), (9, vi k), (10, vi (wrN (a.1.2.2 k.toNat).2.2 (a.1.2.2 k.toNat).2.1.toNat)), (11, vi (tbN (a.1.2.2 k.toNat).2.2 (a.1.2.2 k.toNat).2.1.toNat))] [] w) : ∀ (n j : Nat) (wr tb i c : Int), (a.1.2.2 k.toNat).2.1 < j + n → j ≤ (a.1.2.2 k.toNat).2.1 → wr = wrN (a.1.2.2 k.toNat).2.2 j → tb = tbN (a.1.2.2 k.toNat).2.2 j → i = j → c = aCharQ a k i → J 165 [(0, .ref sb), (1, .ref (b + 0)), (2, vi s0), (3, vi e), (8, vi ls), (9, vi k), (10, vi wr), (11, vi tb), (12, vi i), (13, vi c)] [] w := by
  have hp := (lf_wf hA hk).1
  have hlen := hp.2.1
  have hn8 := hA.1.2.2.1
  intro n
  induction n with
  | zero => intros; exfalso; omega
  | succ n ih =>
    intro j wr tb i c g1 g2 g3 g4 g5 g6
    have hwb := wrN_bd (a.1.2.2 k.toNat).2.2 j
    have htb := tbN_bd (a.1.2.2 k.toNat).2.2 j
    refine j_iload hJ 9 dL_law_165 rfl ?_
    have hc := lf_char hA hk (i := i) (by omega)
    have hcr : -9 ≤ c ∧ c ≤ 122 := by
      rw [g6]
      by_cases q : i < (a.1.2.2 k.toNat).2.1
      · have := (hc.1 q).2
        omega
      · rw [hc.2 q]
        omega
    refine j_iflt hJ (tgt := 227) dL_law_167 (by decide) (by omega) (fun h167 => ?_) (fun h167 => ?_)
    · have hj : ¬ i < (a.1.2.2 k.toNat).2.1 := fun q => by have := (hc.1 q).2.1; omega
      have hjn : j = (a.1.2.2 k.toNat).2.1.toNat := by omega
      rw [g3, g4, hjn]
      refine j_sub hJ [0, 1, 2, 3, 4, 5, 6, 7] rfl ?_
      exact hE
    · have hj : i < (a.1.2.2 k.toNat).2.1 := Decidable.byContradiction fun q => by have := hc.2 q; omega
      have hr := (hc.1 hj).2
      have hch : c = (a.1.2.2 k.toNat).2.2 (j : Int) := by rw [g6, (hc.1 hj).1, g5]
      have s1 : wrN (a.1.2.2 k.toNat).2.2 (j + 1) = wr + (if c = 32 ∨ c = 9 then 0 else 1) := by rw [g3, hch]; rfl
      have s2 : tbN (a.1.2.2 k.toNat).2.2 (j + 1) = tb + (if c = 9 then 1 else 0) := by rw [g4, hch]; rfl
      refine j_iload hJ 6 dL_law_170 rfl ?_
      refine j_iload hJ 9 dL_law_172 rfl ?_
      refine j_bipush hJ dL_law_174 (by decide) ?_
      refine j_icmpeq hJ (tgt := 186) dL_law_176 (by decide) (by omega) (by omega) (fun h176 => ?_) (fun h176 => ?_)
      · refine j_iconst hJ dL_law_186 ?_
        refine j_goto hJ (tgt := 191) dL_law_187 (by decide) ?_
        refine j_iadd hJ dL_law_191 ?_
        refine j_istore hJ [(10, vi (wr + 0)), (0, .ref sb), (1, .ref (b + 0)), (2, vi s0), (3, vi e), (8, vi ls), (9, vi k), (11, vi tb), (12, vi i), (13, vi c)] dL_law_192 (by decide) rfl ?_
        refine j_iload hJ 7 dL_law_194 rfl ?_
        refine j_iload hJ 9 dL_law_196 rfl ?_
        refine j_bipush hJ dL_law_198 (by decide) ?_
        refine j_icmpne hJ (tgt := 207) dL_law_200 (by decide) (by omega) (by omega) (fun h200 => ?_) (fun h200 => ?_)
        · refine j_iconst hJ dL_law_207 ?_
          refine j_iadd hJ dL_law_208 ?_
          refine j_istore hJ [(11, vi (tb + 0)), (10, vi (wr + 0)), (0, .ref sb), (1, .ref (b + 0)), (2, vi s0), (3, vi e), (8, vi ls), (9, vi k), (12, vi i), (13, vi c)] dL_law_209 (by decide) rfl ?_
          refine j_iinc hJ [(12, vi (i + 1)), (11, vi (tb + 0)), (10, vi (wr + 0)), (0, .ref sb), (1, .ref (b + 0)), (2, vi s0), (3, vi e), (8, vi ls), (9, vi k), (13, vi c)] 8 dL_law_211 rfl (by decide) rfl ?_
          refine j_aload_n hJ 4 dL_law_214 rfl ?_
          refine j_iload hJ 8 dL_law_215 rfl ?_
          refine j_iload hJ 0 dL_law_217 rfl ?_
          refine j_callF hJ hw lk_L_34 dL_law_219 (fun I R π sg hI hA => k_character I R π sg a hI hA _ (by omega) _ (by omega)) (by decide) rfl rfl (Nat.le_of_ble_eq_true rfl) ?_
          refine j_istore hJ [(13, vi (aCharQ a k (i + 1))), (12, vi (i + 1)), (11, vi (tb + 0)), (10, vi (wr + 0)), (0, .ref sb), (1, .ref (b + 0)), (2, vi s0), (3, vi e), (8, vi ls), (9, vi k)] dL_law_222 (by decide) rfl ?_
          refine j_goto hJ (tgt := 165) dL_law_224 (by decide) ?_
          refine j_sub hJ [4, 5, 6, 7, 8, 9, 3, 2, 1, 0] rfl ?_
          exact ih (j + 1) _ _ _ _ (by omega) (by omega) (by rw [s1]; split <;> omega) (by rw [s2]; split <;> omega) (by omega) rfl
        · refine j_iconst hJ dL_law_203 ?_
          refine j_goto hJ (tgt := 208) dL_law_204 (by decide) ?_
          refine j_iadd hJ dL_law_208 ?_
          refine j_istore hJ [(11, vi (tb + 1)), (10, vi (wr + 0)), (0, .ref sb), (1, .ref (b + 0)), (2, vi s0), (3, vi e), (8, vi ls), (9, vi k), (12, vi i), (13, vi c)] dL_law_209 (by decide) rfl ?_
          refine j_iinc hJ [(12, vi (i + 1)), (11, vi (tb + 1)), (10, vi (wr + 0)), (0, .ref sb), (1, .ref (b + 0)), (2, vi s0), (3, vi e), (8, vi ls), (9, vi k), (13, vi c)] 8 dL_law_211 rfl (by decide) rfl ?_
          refine j_aload_n hJ 4 dL_law_214 rfl ?_
          refine j_iload hJ 8 dL_law_215 rfl ?_
          refine j_iload hJ 0 dL_law_217 rfl ?_
          refine j_callF hJ hw lk_L_34 dL_law_219 (fun I R π sg hI hA => k_character I R π sg a hI hA _ (by omega) _ (by omega)) (by decide) rfl rfl (Nat.le_of_ble_eq_true rfl) ?_
          refine j_istore hJ [(13, vi (aCharQ a k (i + 1))), (12, vi (i + 1)), (11, vi (tb + 1)), (10, vi (wr + 0)), (0, .ref sb), (1, .ref (b + 0)), (2, vi s0), (3, vi e), (8, vi ls), (9, vi k)] dL_law_222 (by decide) rfl ?_
          refine j_goto hJ (tgt := 165) dL_law_224 (by decide) ?_
          refine j_sub hJ [4, 5, 6, 7, 8, 9, 3, 2, 1, 0] rfl ?_
          exact ih (j + 1) _ _ _ _ (by omega) (by omega) (by rw [s1]; split <;> omega) (by rw [s2]; split <;> omega) (by omega) rfl
      · refine j_iload hJ 9 dL_law_179 rfl ?_
        refine j_bipush hJ dL_law_181 (by decide) ?_
        refine j_icmpne hJ (tgt := 190) dL_law_183 (by decide) (by omega) (by omega) (fun h183 => ?_) (fun h183 => ?_)
        · refine j_iconst hJ dL_law_190 ?_
          refine j_iadd hJ dL_law_191 ?_
          refine j_istore hJ [(10, vi (wr + 1)), (0, .ref sb), (1, .ref (b + 0)), (2, vi s0), (3, vi e), (8, vi ls), (9, vi k), (11, vi tb), (12, vi i), (13, vi c)] dL_law_192 (by decide) rfl ?_
          refine j_iload hJ 7 dL_law_194 rfl ?_
          refine j_iload hJ 9 dL_law_196 rfl ?_
          refine j_bipush hJ dL_law_198 (by decide) ?_
          refine j_icmpne hJ (tgt := 207) dL_law_200 (by decide) (by omega) (by omega) (fun h200 => ?_) (fun h200 => ?_)
          · refine j_iconst hJ dL_law_207 ?_
            refine j_iadd hJ dL_law_208 ?_
            refine j_istore hJ [(11, vi (tb + 0)), (10, vi (wr + 1)), (0, .ref sb), (1, .ref (b + 0)), (2, vi s0), (3, vi e), (8, vi ls), (9, vi k), (12, vi i), (13, vi c)] dL_law_209 (by decide) rfl ?_
            refine j_iinc hJ [(12, vi (i + 1)), (11, vi (tb + 0)), (10, vi (wr + 1)), (0, .ref sb), (1, .ref (b + 0)), (2, vi s0), (3, vi e), (8, vi ls), (9, vi k), (13, vi c)] 8 dL_law_211 rfl (by decide) rfl ?_
            refine j_aload_n hJ 4 dL_law_214 rfl ?_
            refine j_iload hJ 8 dL_law_215 rfl ?_
            refine j_iload hJ 0 dL_law_217 rfl ?_
            refine j_callF hJ hw lk_L_34 dL_law_219 (fun I R π sg hI hA => k_character I R π sg a hI hA _ (by omega) _ (by omega)) (by decide) rfl rfl (Nat.le_of_ble_eq_true rfl) ?_
            refine j_istore hJ [(13, vi (aCharQ a k (i + 1))), (12, vi (i + 1)), (11, vi (tb + 0)), (10, vi (wr + 1)), (0, .ref sb), (1, .ref (b + 0)), (2, vi s0), (3, vi e), (8, vi ls), (9, vi k)] dL_law_222 (by decide) rfl ?_
            refine j_goto hJ (tgt := 165) dL_law_224 (by decide) ?_
            refine j_sub hJ [4, 5, 6, 7, 8, 9, 3, 2, 1, 0] rfl ?_
            exact ih (j + 1) _ _ _ _ (by omega) (by omega) (by rw [s1]; split <;> omega) (by rw [s2]; split <;> omega) (by omega) rfl
          · refine j_iconst hJ dL_law_203 ?_
            refine j_goto hJ (tgt := 208) dL_law_204 (by decide) ?_
            refine j_iadd hJ dL_law_208 ?_
            refine j_istore hJ [(11, vi (tb + 1)), (10, vi (wr + 1)), (0, .ref sb), (1, .ref (b + 0)), (2, vi s0), (3, vi e), (8, vi ls), (9, vi k), (12, vi i), (13, vi c)] dL_law_209 (by decide) rfl ?_
            refine j_iinc hJ [(12, vi (i + 1)), (11, vi (tb + 1)), (10, vi (wr + 1)), (0, .ref sb), (1, .ref (b + 0)), (2, vi s0), (3, vi e), (8, vi ls), (9, vi k), (13, vi c)] 8 dL_law_211 rfl (by decide) rfl ?_
            refine j_aload_n hJ 4 dL_law_214 rfl ?_
            refine j_iload hJ 8 dL_law_215 rfl ?_
            refine j_iload hJ 0 dL_law_217 rfl ?_
            refine j_callF hJ hw lk_L_34 dL_law_219 (fun I R π sg hI hA => k_character I R π sg a hI hA _ (by omega) _ (by omega)) (by decide) rfl rfl (Nat.le_of_ble_eq_true rfl) ?_
            refine j_istore hJ [(13, vi (aCharQ a k (i + 1))), (12, vi (i + 1)), (11, vi (tb + 1)), (10, vi (wr + 1)), (0, .ref sb), (1, .ref (b + 0)), (2, vi s0), (3, vi e), (8, vi ls), (9, vi k)] dL_law_222 (by decide) rfl ?_
            refine j_goto hJ (tgt := 165) dL_law_224 (by decide) ?_
            refine j_sub hJ [4, 5, 6, 7, 8, 9, 3, 2, 1, 0] rfl ?_
            exact ih (j + 1) _ _ _ _ (by omega) (by omega) (by rw [s1]; split <;> omega) (by rw [s2]; split <;> omega) (by omega) rfl
        · refine j_iconst hJ dL_law_186 ?_
          refine j_goto hJ (tgt := 191) dL_law_187 (by decide) ?_
          refine j_iadd hJ dL_law_191 ?_
          refine j_istore hJ [(10, vi (wr + 0)), (0, .ref sb), (1, .ref (b + 0)), (2, vi s0), (3, vi e), (8, vi ls), (9, vi k), (11, vi tb), (12, vi i), (13, vi c)] dL_law_192 (by decide) rfl ?_
          refine j_iload hJ 7 dL_law_194 rfl ?_
          refine j_iload hJ 9 dL_law_196 rfl ?_
          refine j_bipush hJ dL_law_198 (by decide) ?_
          refine j_icmpne hJ (tgt := 207) dL_law_200 (by decide) (by omega) (by omega) (fun h200 => ?_) (fun h200 => ?_)
          · refine j_iconst hJ dL_law_207 ?_
            refine j_iadd hJ dL_law_208 ?_
            refine j_istore hJ [(11, vi (tb + 0)), (10, vi (wr + 0)), (0, .ref sb), (1, .ref (b + 0)), (2, vi s0), (3, vi e), (8, vi ls), (9, vi k), (12, vi i), (13, vi c)] dL_law_209 (by decide) rfl ?_
            refine j_iinc hJ [(12, vi (i + 1)), (11, vi (tb + 0)), (10, vi (wr + 0)), (0, .ref sb), (1, .ref (b + 0)), (2, vi s0), (3, vi e), (8, vi ls), (9, vi k), (13, vi c)] 8 dL_law_211 rfl (by decide) rfl ?_
            refine j_aload_n hJ 4 dL_law_214 rfl ?_
            refine j_iload hJ 8 dL_law_215 rfl ?_
            refine j_iload hJ 0 dL_law_217 rfl ?_
            refine j_callF hJ hw lk_L_34 dL_law_219 (fun I R π sg hI hA => k_character I R π sg a hI hA _ (by omega) _ (by omega)) (by decide) rfl rfl (Nat.le_of_ble_eq_true rfl) ?_
            refine j_istore hJ [(13, vi (aCharQ a k (i + 1))), (12, vi (i + 1)), (11, vi (tb + 0)), (10, vi (wr + 0)), (0, .ref sb), (1, .ref (b + 0)), (2, vi s0), (3, vi e), (8, vi ls), (9, vi k)] dL_law_222 (by decide) rfl ?_
            refine j_goto hJ (tgt := 165) dL_law_224 (by decide) ?_
            refine j_sub hJ [4, 5, 6, 7, 8, 9, 3, 2, 1, 0] rfl ?_
            exact ih (j + 1) _ _ _ _ (by omega) (by omega) (by rw [s1]; split <;> omega) (by rw [s2]; split <;> omega) (by omega) rfl
          · refine j_iconst hJ dL_law_203 ?_
            refine j_goto hJ (tgt := 208) dL_law_204 (by decide) ?_
            refine j_iadd hJ dL_law_208 ?_
            refine j_istore hJ [(11, vi (tb + 1)), (10, vi (wr + 0)), (0, .ref sb), (1, .ref (b + 0)), (2, vi s0), (3, vi e), (8, vi ls), (9, vi k), (12, vi i), (13, vi c)] dL_law_209 (by decide) rfl ?_
            refine j_iinc hJ [(12, vi (i + 1)), (11, vi (tb + 1)), (10, vi (wr + 0)), (0, .ref sb), (1, .ref (b + 0)), (2, vi s0), (3, vi e), (8, vi ls), (9, vi k), (13, vi c)] 8 dL_law_211 rfl (by decide) rfl ?_
            refine j_aload_n hJ 4 dL_law_214 rfl ?_
            refine j_iload hJ 8 dL_law_215 rfl ?_
            refine j_iload hJ 0 dL_law_217 rfl ?_
            refine j_callF hJ hw lk_L_34 dL_law_219 (fun I R π sg hI hA => k_character I R π sg a hI hA _ (by omega) _ (by omega)) (by decide) rfl rfl (Nat.le_of_ble_eq_true rfl) ?_
            refine j_istore hJ [(13, vi (aCharQ a k (i + 1))), (12, vi (i + 1)), (11, vi (tb + 1)), (10, vi (wr + 0)), (0, .ref sb), (1, .ref (b + 0)), (2, vi s0), (3, vi e), (8, vi ls), (9, vi k)] dL_law_222 (by decide) rfl ?_
            refine j_goto hJ (tgt := 165) dL_law_224 (by decide) ?_
            refine j_sub hJ [4, 5, 6, 7, 8, 9, 3, 2, 1, 0] rfl ?_
            exact ih (j + 1) _ _ _ _ (by omega) (by omega) (by rw [s1]; split <;> omega) (by rw [s2]; split <;> omega) (by omega) rfl
set_option maxHeartbeats 4000000 in
set_option maxRecDepth 100000 in
theorem lb_manner (hJ : KOk code "TabLinesLaw" 19 9 b J) (hA : AbsOk a) {k f s0 e ls tb its bf : Int} (hk : 0 ≤ k ∧ k ≤ 7) (hf : 0 ≤ f ∧ f ≤ 80) (h3 : -9 ≤ aField a k f 3 ∧ aField a k f 3 ≤ 100) (h5 : -9 ≤ aField a k f 5 ∧ aField a k f 5 ≤ 2) (hiff : 0 ≤ aField a k f 5 ↔ 0 ≤ aField a k f 3) (hE : ∀ w : Wd, WA a w → J 320 [(0, .ref sb), (1, .ref (b + 0)), (2, vi s0), (3, vi e), (8, vi ls), (9, vi k), (11, vi tb), (13, vi its), (14, vi bf), (15, vi (f + 1))] [] w) {w : Wd} (hw : WA a w) : J 446 [(0, .ref sb), (1, .ref (b + 0)), (2, vi s0), (3, vi e), (8, vi ls), (9, vi k), (11, vi tb), (13, vi its), (14, vi bf), (15, vi f), (18, vi (aField a k f 5))] [] w := by
  refine j_iload hJ 10 dL_law_446 rfl ?_
  refine j_iflt hJ (tgt := 455) dL_law_448 (by decide) (by omega) (fun h448 => ?_) (fun h448 => ?_)
  · refine j_iconst hJ dL_law_455 ?_
    refine j_aload_n hJ 1 dL_law_456 rfl ?_
    refine j_iload hJ 5 dL_law_457 rfl ?_
    refine j_iload hJ 9 dL_law_459 rfl ?_
    refine j_iconst hJ dL_law_461 ?_
    refine j_callC hJ hw lk_L_98 dL_law_462 (fun I R π sg hI hA => k_field I R π sg a hI hA _ (by omega) _ (by omega) _ (by omega)) (fun h => h) (by decide) rfl rfl (Nat.le_of_ble_eq_true rfl) (fun w462 hw462 => ?_)
    have hw462 : WA a w462 := hw462
    show J 465 [(0, .ref sb), (1, .ref (b + 0)), (2, vi s0), (3, vi e), (8, vi ls), (9, vi k), (11, vi tb), (13, vi its), (14, vi bf), (15, vi f), (18, vi (aField a k f 5))] [vi (aField a k f 3), vi 0] w462
    refine j_iflt hJ (tgt := 472) dL_law_465 (by decide) (by omega) (fun h465 => ?_) (fun h465 => ?_)
    · refine j_iconst hJ dL_law_472 ?_
      refine j_icmpeq hJ (tgt := 478) dL_law_473 (by decide) (by omega) (by omega) (fun h473 => ?_) (fun h473 => ?_)
      · refine j_iinc hJ [(15, vi (f + 1)), (0, .ref sb), (1, .ref (b + 0)), (2, vi s0), (3, vi e), (8, vi ls), (9, vi k), (11, vi tb), (13, vi its), (14, vi bf), (18, vi (aField a k f 5))] 9 dL_law_478 rfl (by decide) rfl ?_
        refine j_goto hJ (tgt := 320) dL_law_481 (by decide) ?_
        refine j_sub hJ [1, 2, 3, 4, 5, 6, 7, 8, 9, 0] rfl ?_
        exact hE _ hw462
      · exact absurd rfl h473
    · refine j_iconst hJ dL_law_468 ?_
      refine j_goto hJ (tgt := 473) dL_law_469 (by decide) ?_
      refine j_icmpeq hJ (tgt := 478) dL_law_473 (by decide) (by omega) (by omega) (fun h473 => ?_) (fun h473 => ?_)
      · exfalso
        omega
      · exfalso
        omega
  · refine j_iconst hJ dL_law_451 ?_
    refine j_goto hJ (tgt := 456) dL_law_452 (by decide) ?_
    refine j_aload_n hJ 1 dL_law_456 rfl ?_
    refine j_iload hJ 5 dL_law_457 rfl ?_
    refine j_iload hJ 9 dL_law_459 rfl ?_
    refine j_iconst hJ dL_law_461 ?_
    refine j_callC hJ hw lk_L_98 dL_law_462 (fun I R π sg hI hA => k_field I R π sg a hI hA _ (by omega) _ (by omega) _ (by omega)) (fun h => h) (by decide) rfl rfl (Nat.le_of_ble_eq_true rfl) (fun w462 hw462 => ?_)
    have hw462 : WA a w462 := hw462
    show J 465 [(0, .ref sb), (1, .ref (b + 0)), (2, vi s0), (3, vi e), (8, vi ls), (9, vi k), (11, vi tb), (13, vi its), (14, vi bf), (15, vi f), (18, vi (aField a k f 5))] [vi (aField a k f 3), vi 1] w462
    refine j_iflt hJ (tgt := 472) dL_law_465 (by decide) (by omega) (fun h465 => ?_) (fun h465 => ?_)
    · refine j_iconst hJ dL_law_472 ?_
      refine j_icmpeq hJ (tgt := 478) dL_law_473 (by decide) (by omega) (by omega) (fun h473 => ?_) (fun h473 => ?_)
      · exfalso
        omega
      · exfalso
        omega
    · refine j_iconst hJ dL_law_468 ?_
      refine j_goto hJ (tgt := 473) dL_law_469 (by decide) ?_
      refine j_icmpeq hJ (tgt := 478) dL_law_473 (by decide) (by omega) (by omega) (fun h473 => ?_) (fun h473 => ?_)
      · refine j_iinc hJ [(15, vi (f + 1)), (0, .ref sb), (1, .ref (b + 0)), (2, vi s0), (3, vi e), (8, vi ls), (9, vi k), (11, vi tb), (13, vi its), (14, vi bf), (18, vi (aField a k f 5))] 9 dL_law_478 rfl (by decide) rfl ?_
        refine j_goto hJ (tgt := 320) dL_law_481 (by decide) ?_
        refine j_sub hJ [1, 2, 3, 4, 5, 6, 7, 8, 9, 0] rfl ?_
        exact hE _ hw462
      · exact absurd rfl h473
set_option maxHeartbeats 4000000 in
set_option maxRecDepth 100000 in
theorem lb_fields (hJ : KOk code "TabLinesLaw" 19 9 b J) (hA : AbsOk a) {k s0 e ls tb its : Int} (hk : 0 ≤ k ∧ k ≤ a.1.1.2.2 - 1) (htb : tb = tbN (a.1.2.2 k.toNat).2.2 (a.1.2.2 k.toNat).2.1.toNat) (hits : its = aLines a k) (hE : ∀ w : Wd, WA a w → J 484 [(0, .ref sb), (1, .ref (b + 0)), (2, vi s0), (3, vi e), (8, vi ls), (9, vi k), (11, vi tb), (13, vi its), (15, vi (tb + 1))] [] w) : ∀ (n : Nat) (f bf : Int) (w : Wd), tb + 1 < f + n → 0 ≤ f → f ≤ tb + 1 → ((f = 0 ∧ bf = 0) ∨ (1 ≤ f ∧ 0 ≤ bf ∧ bf = aField a k (f - 1) 0)) → WA a w → J 320 [(0, .ref sb), (1, .ref (b + 0)), (2, vi s0), (3, vi e), (8, vi ls), (9, vi k), (11, vi tb), (13, vi its), (14, vi bf), (15, vi f)] [] w := by
  have hp := (lf_wf hA hk).1
  have hlen := hp.2.1
  have hn8 := hA.1.2.2.1
  have hW := hA.1.1
  have htn := tbN_bd (a.1.2.2 k.toNat).2.2 (a.1.2.2 k.toNat).2.1.toNat
  have hl := lf_lines hA hk
  intro n
  induction n with
  | zero => intros; exfalso; omega
  | succ n ih =>
    intro f bf w g1 g2 g3 g4 hw
    refine j_iload hJ 9 dL_law_320 rfl ?_
    refine j_iload hJ 6 dL_law_322 rfl ?_
    refine j_icmpgt hJ (tgt := 484) dL_law_324 (by decide) (by omega) (by omega) (fun h324 => ?_) (fun h324 => ?_)
    · have hft : f = tb + 1 := by omega
      subst hft
      refine j_sub hJ [0, 1, 2, 3, 4, 5, 6, 7, 9] rfl ?_
      exact hE _ hw
    · obtain ⟨q0, q1, q2, qm, qi, q3, q4, q5, qp⟩ := lf_field hA hk (f := f) (by omega)
      have qb0 : 0 ≤ bf := by omega
      have qb : bf ≤ aField a k f 0 := by
        rcases g4 with q | q
        · have := q0.1
          omega
        · rw [q.2.2]; exact qp q.1
      refine j_aload_n hJ 1 dL_law_327 rfl ?_
      refine j_iload hJ 5 dL_law_328 rfl ?_
      refine j_iload hJ 9 dL_law_330 rfl ?_
      refine j_iconst hJ dL_law_332 ?_
      refine j_callC hJ hw lk_L_98 dL_law_333 (fun I R π sg hI hA => k_field I R π sg a hI hA _ (by omega) _ (by omega) _ (by omega)) (fun h => h) (by decide) rfl rfl (Nat.le_of_ble_eq_true rfl) (fun w333 hw333 => ?_)
      have hw333 : WA a w333 := hw333
      show J 336 [(0, .ref sb), (1, .ref (b + 0)), (2, vi s0), (3, vi e), (8, vi ls), (9, vi k), (11, vi tb), (13, vi its), (14, vi bf), (15, vi f)] [vi (aField a k f 0)] w333
      refine j_istore hJ [(16, vi (aField a k f 0)), (0, .ref sb), (1, .ref (b + 0)), (2, vi s0), (3, vi e), (8, vi ls), (9, vi k), (11, vi tb), (13, vi its), (14, vi bf), (15, vi f)] dL_law_336 (by decide) rfl ?_
      refine j_aload_n hJ 2 dL_law_338 rfl ?_
      refine j_iload hJ 6 dL_law_339 rfl ?_
      refine j_iload hJ 10 dL_law_341 rfl ?_
      refine j_iconst hJ dL_law_343 ?_
      refine j_callC hJ hw333 lk_L_98 dL_law_344 (fun I R π sg hI hA => k_field I R π sg a hI hA _ (by omega) _ (by omega) _ (by omega)) (fun h => h) (by decide) rfl rfl (Nat.le_of_ble_eq_true rfl) (fun w344 hw344 => ?_)
      have hw344 : WA a w344 := hw344
      show J 347 [(16, vi (aField a k f 0)), (0, .ref sb), (1, .ref (b + 0)), (2, vi s0), (3, vi e), (8, vi ls), (9, vi k), (11, vi tb), (13, vi its), (14, vi bf), (15, vi f)] [vi (aField a k f 1)] w344
      refine j_istore hJ [(17, vi (aField a k f 1)), (16, vi (aField a k f 0)), (0, .ref sb), (1, .ref (b + 0)), (2, vi s0), (3, vi e), (8, vi ls), (9, vi k), (11, vi tb), (13, vi its), (14, vi bf), (15, vi f)] dL_law_347 (by decide) rfl ?_
      refine j_iload hJ 1 dL_law_349 rfl ?_
      refine j_iload hJ 10 dL_law_351 rfl ?_
      refine j_icmplt hJ (tgt := 398) dL_law_353 (by decide) (by omega) (by omega) (fun h353 => ?_) (fun h353 => ?_)
      · exfalso
        omega
      · refine j_iload hJ 1 dL_law_356 rfl ?_
        refine j_iload hJ 9 dL_law_358 rfl ?_
        refine j_icmpge hJ (tgt := 398) dL_law_360 (by decide) (by omega) (by omega) (fun h360 => ?_) (fun h360 => ?_)
        · exfalso
          omega
        · refine j_iload hJ 0 dL_law_363 rfl ?_
          refine j_iflt hJ (tgt := 398) dL_law_365 (by decide) (by omega) (fun h365 => ?_) (fun h365 => ?_)
          · exfalso
            omega
          · refine j_iload hJ 0 dL_law_368 rfl ?_
            refine j_aload_n hJ 3 dL_law_370 rfl ?_
            refine j_iconst hJ dL_law_371 ?_
            refine j_callC hJ hw344 lk_L_12 dL_law_372 (fun I R π sg hI hA => k_count I R π sg a hI hA _ (by omega)) (fun h => h) (by decide) rfl rfl (Nat.le_of_ble_eq_true rfl) (fun w372 hw372 => ?_)
            have hw372 : WA a w372 := hw372
            show J 375 [(17, vi (aField a k f 1)), (16, vi (aField a k f 0)), (0, .ref sb), (1, .ref (b + 0)), (2, vi s0), (3, vi e), (8, vi ls), (9, vi k), (11, vi tb), (13, vi its), (14, vi bf), (15, vi f)] [vi a.1.1.1, vi (aField a k f 1)] w372
            refine j_icmpgt hJ (tgt := 398) dL_law_375 (by decide) (by omega) (by omega) (fun h375 => ?_) (fun h375 => ?_)
            · exfalso
              omega
            · refine j_iload hJ 0 dL_law_378 rfl ?_
              refine j_aload_n hJ 3 dL_law_380 rfl ?_
              refine j_iload hJ 7 dL_law_381 rfl ?_
              refine j_iload hJ 11 dL_law_383 rfl ?_
              refine j_iconst hJ dL_law_385 ?_
              refine j_callC hJ hw372 lk_L_98 dL_law_386 (fun I R π sg hI hA => k_field I R π sg a hI hA _ (by omega) _ (by omega) _ (by omega)) (fun h => h) (by decide) rfl rfl (Nat.le_of_ble_eq_true rfl) (fun w386 hw386 => ?_)
              have hw386 : WA a w386 := hw386
              show J 389 [(17, vi (aField a k f 1)), (16, vi (aField a k f 0)), (0, .ref sb), (1, .ref (b + 0)), (2, vi s0), (3, vi e), (8, vi ls), (9, vi k), (11, vi tb), (13, vi its), (14, vi bf), (15, vi f)] [vi (aField a k f 2), vi (aField a k f 1)] w386
              refine j_iadd hJ dL_law_389 ?_
              refine j_aload_n hJ 3 dL_law_390 rfl ?_
              refine j_iconst hJ dL_law_391 ?_
              refine j_callC hJ hw386 lk_L_12 dL_law_392 (fun I R π sg hI hA => k_count I R π sg a hI hA _ (by omega)) (fun h => h) (by decide) rfl rfl (Nat.le_of_ble_eq_true rfl) (fun w392 hw392 => ?_)
              have hw392 : WA a w392 := hw392
              show J 395 [(17, vi (aField a k f 1)), (16, vi (aField a k f 0)), (0, .ref sb), (1, .ref (b + 0)), (2, vi s0), (3, vi e), (8, vi ls), (9, vi k), (11, vi tb), (13, vi its), (14, vi bf), (15, vi f)] [vi a.1.1.1, vi ((aField a k f 1) + (aField a k f 2))] w392
              refine j_icmple hJ (tgt := 400) dL_law_395 (by decide) (by omega) (by omega) (fun h395 => ?_) (fun h395 => ?_)
              · refine j_iload hJ 1 dL_law_400 rfl ?_
                refine j_istore hJ [(14, vi (aField a k f 0)), (17, vi (aField a k f 1)), (16, vi (aField a k f 0)), (0, .ref sb), (1, .ref (b + 0)), (2, vi s0), (3, vi e), (8, vi ls), (9, vi k), (11, vi tb), (13, vi its), (15, vi f)] dL_law_402 (by decide) rfl ?_
                refine j_aload_n hJ 4 dL_law_404 rfl ?_
                refine j_iload hJ 8 dL_law_405 rfl ?_
                refine j_iload hJ 11 dL_law_407 rfl ?_
                refine j_iconst hJ dL_law_409 ?_
                refine j_callC hJ hw392 lk_L_98 dL_law_410 (fun I R π sg hI hA => k_field I R π sg a hI hA _ (by omega) _ (by omega) _ (by omega)) (fun h => h) (by decide) rfl rfl (Nat.le_of_ble_eq_true rfl) (fun w410 hw410 => ?_)
                have hw410 : WA a w410 := hw410
                show J 413 [(14, vi (aField a k f 0)), (17, vi (aField a k f 1)), (16, vi (aField a k f 0)), (0, .ref sb), (1, .ref (b + 0)), (2, vi s0), (3, vi e), (8, vi ls), (9, vi k), (11, vi tb), (13, vi its), (15, vi f)] [vi (aField a k f 5)] w410
                refine j_istore hJ [(18, vi (aField a k f 5)), (14, vi (aField a k f 0)), (17, vi (aField a k f 1)), (16, vi (aField a k f 0)), (0, .ref sb), (1, .ref (b + 0)), (2, vi s0), (3, vi e), (8, vi ls), (9, vi k), (11, vi tb), (13, vi its), (15, vi f)] dL_law_413 (by decide) rfl ?_
                refine j_iload hJ 0 dL_law_415 rfl ?_
                refine j_ifne hJ (tgt := 446) dL_law_417 (by decide) (by omega) (fun h417 => ?_) (fun h417 => ?_)
                · refine j_sub hJ [4, 5, 6, 7, 8, 9, 10, 11, 1, 12, 0] rfl ?_
                  exact lb_manner hJ hA (by omega) (by omega) q3 q5 qi (fun w hw => ih (f + 1) _ _ (by omega) (by omega) (by omega) (Or.inr ⟨by omega, q0.1, by rw [show f + 1 - 1 = f by omega]⟩) hw) hw410
                · refine j_aload_n hJ 5 dL_law_420 rfl ?_
                  refine j_iload hJ 9 dL_law_421 rfl ?_
                  refine j_iload hJ 12 dL_law_423 rfl ?_
                  refine j_iconst hJ dL_law_425 ?_
                  refine j_callC hJ hw410 lk_L_98 dL_law_426 (fun I R π sg hI hA => k_field I R π sg a hI hA _ (by omega) _ (by omega) _ (by omega)) (fun h => h) (by decide) rfl rfl (Nat.le_of_ble_eq_true rfl) (fun w426 hw426 => ?_)
                  have hw426 : WA a w426 := hw426
                  show J 429 [(18, vi (aField a k f 5)), (14, vi (aField a k f 0)), (17, vi (aField a k f 1)), (16, vi (aField a k f 0)), (0, .ref sb), (1, .ref (b + 0)), (2, vi s0), (3, vi e), (8, vi ls), (9, vi k), (11, vi tb), (13, vi its), (15, vi f)] [vi (aField a k f 4)] w426
                  refine j_ifne hJ (tgt := 446) dL_law_429 (by decide) (by omega) (fun h429 => ?_) (fun h429 => ?_)
                  · refine j_sub hJ [4, 5, 6, 7, 8, 9, 10, 11, 1, 12, 0] rfl ?_
                    exact lb_manner hJ hA (by omega) (by omega) q3 q5 qi (fun w hw => ih (f + 1) _ _ (by omega) (by omega) (by omega) (Or.inr ⟨by omega, q0.1, by rw [show f + 1 - 1 = f by omega]⟩) hw) hw426
                  · refine j_iload hJ 2 dL_law_432 rfl ?_
                    refine j_aload_n hJ 5 dL_law_434 rfl ?_
                    refine j_iload hJ 9 dL_law_435 rfl ?_
                    refine j_iload hJ 12 dL_law_437 rfl ?_
                    refine j_iconst hJ dL_law_439 ?_
                    refine j_callC hJ hw426 lk_L_98 dL_law_440 (fun I R π sg hI hA => k_field I R π sg a hI hA _ (by omega) _ (by omega) _ (by omega)) (fun h => h) (by decide) rfl rfl (Nat.le_of_ble_eq_true rfl) (fun w440 hw440 => ?_)
                    have hw440 : WA a w440 := hw440
                    show J 443 [(18, vi (aField a k f 5)), (14, vi (aField a k f 0)), (17, vi (aField a k f 1)), (16, vi (aField a k f 0)), (0, .ref sb), (1, .ref (b + 0)), (2, vi s0), (3, vi e), (8, vi ls), (9, vi k), (11, vi tb), (13, vi its), (15, vi f)] [vi (aField a k f 3), vi (aField a k f 1)] w440
                    refine j_icmpne hJ (tgt := 476) dL_law_443 (by decide) (by omega) (by omega) (fun h443 => ?_) (fun h443 => ?_)
                    · exact absurd (qm (by omega) (by omega)) h443
                    · refine j_sub hJ [4, 5, 6, 7, 8, 9, 10, 11, 1, 12, 0] rfl ?_
                      exact lb_manner hJ hA (by omega) (by omega) q3 q5 qi (fun w hw => ih (f + 1) _ _ (by omega) (by omega) (by omega) (Or.inr ⟨by omega, q0.1, by rw [show f + 1 - 1 = f by omega]⟩) hw) hw440
              · exfalso
                omega
set_option maxHeartbeats 4000000 in
set_option maxRecDepth 100000 in
theorem lb_par (hJ : KOk code "TabLinesLaw" 19 9 b J) (hA : AbsOk a) {k s0 e ls wr tb : Int} (hk : 0 ≤ k ∧ k ≤ a.1.1.2.2 - 1) (hwr : wr = wrN (a.1.2.2 k.toNat).2.2 (a.1.2.2 k.toNat).2.1.toNat) (htb : tb = tbN (a.1.2.2 k.toNat).2.2 (a.1.2.2 k.toNat).2.1.toNat) (hE : ∀ w : Wd, WA a w → J 518 [(0, .ref sb), (1, .ref (b + 0)), (2, vi s0), (3, vi e), (8, vi (ls + aLines a k)), (9, vi k)] [] w) {w : Wd} (hw : WA a w) : J 227 [(0, .ref sb), (1, .ref (b + 0)), (2, vi s0), (3, vi e), (8, vi ls), (9, vi k), (10, vi wr), (11, vi tb)] [] w := by
  have hp := (lf_wf hA hk).1
  have hlen := hp.2.1
  have hn8 := hA.1.2.2.1
  have hW := hA.1.1
  have htn := tbN_bd (a.1.2.2 k.toNat).2.2 (a.1.2.2 k.toNat).2.1.toNat
  have hwn := wrN_bd (a.1.2.2 k.toNat).2.2 (a.1.2.2 k.toNat).2.1.toNat
  have hl := lf_lines hA hk
  have h0 : aHolds a k 0 = wr := (lf_holds hA hk).trans hwr.symm
  have hsum := lf_sum hA hk
  have hle := lf_least hA hk
  have hlast : aField a k (tb + 1) 0 = -9 := by
    rw [htb]
    exact lf_last hA hk htn.1
  have hpr : -2147483648 ≤ aLines a k * a.1.1.1 ∧ aLines a k * a.1.1.1 ≤ 2147483647 := by
    have q1 : 0 ≤ aLines a k * a.1.1.1 := Int.mul_nonneg (by omega) (by omega)
    have q2 : aLines a k * a.1.1.1 ≤ 81 * 80 := Int.mul_le_mul (by omega) (by omega) (by omega) (by omega)
    omega
  refine j_aload_n hJ 1 dL_law_227 rfl ?_
  refine j_iload hJ 5 dL_law_228 rfl ?_
  refine j_callC hJ hw lk_L_89 dL_law_230 (fun I R π sg hI hA => k_lines I R π sg a hI hA _ (by omega)) (fun h => h) (by decide) rfl rfl (Nat.le_of_ble_eq_true rfl) (fun w230 hw230 => ?_)
  have hw230 : WA a w230 := hw230
  show J 233 [(0, .ref sb), (1, .ref (b + 0)), (2, vi s0), (3, vi e), (8, vi ls), (9, vi k), (10, vi wr), (11, vi tb)] [vi (aLines a k)] w230
  refine j_istore hJ [(13, vi (aLines a k)), (0, .ref sb), (1, .ref (b + 0)), (2, vi s0), (3, vi e), (8, vi ls), (9, vi k), (10, vi wr), (11, vi tb)] dL_law_233 (by decide) rfl ?_
  refine j_iload hJ 5 dL_law_235 rfl ?_
  refine j_iload hJ 0 dL_law_237 rfl ?_
  refine j_iadd hJ dL_law_239 ?_
  refine j_istore hJ [(8, vi (ls + (aLines a k))), (13, vi (aLines a k)), (0, .ref sb), (1, .ref (b + 0)), (2, vi s0), (3, vi e), (9, vi k), (10, vi wr), (11, vi tb)] dL_law_240 (by decide) rfl ?_
  refine j_aload_n hJ 3 dL_law_242 rfl ?_
  refine j_iload hJ 6 dL_law_243 rfl ?_
  refine j_iconst hJ dL_law_245 ?_
  refine j_callC hJ hw230 lk_L_92 dL_law_246 (fun I R π sg hI hA => k_holds I R π sg a hI hA _ (by omega) _ (by omega)) (fun h => h) (by decide) rfl rfl (Nat.le_of_ble_eq_true rfl) (fun w246 hw246 => ?_)
  have hw246 : WA a w246 := hw246
  show J 249 [(8, vi (ls + (aLines a k))), (13, vi (aLines a k)), (0, .ref sb), (1, .ref (b + 0)), (2, vi s0), (3, vi e), (9, vi k), (10, vi wr), (11, vi tb)] [vi (aHolds a k 0)] w246
  refine j_iload hJ 7 dL_law_249 rfl ?_
  refine j_icmpne hJ (tgt := 312) dL_law_251 (by decide) (by omega) (by omega) (fun h251 => ?_) (fun h251 => ?_)
  · exact absurd h0 h251
  · refine j_aload_n hJ 3 dL_law_254 rfl ?_
    refine j_iload hJ 6 dL_law_255 rfl ?_
    refine j_iconst hJ dL_law_257 ?_
    refine j_callC hJ hw246 lk_L_92 dL_law_258 (fun I R π sg hI hA => k_holds I R π sg a hI hA _ (by omega) _ (by omega)) (fun h => h) (by decide) rfl rfl (Nat.le_of_ble_eq_true rfl) (fun w258 hw258 => ?_)
    have hw258 : WA a w258 := hw258
    show J 261 [(8, vi (ls + (aLines a k))), (13, vi (aLines a k)), (0, .ref sb), (1, .ref (b + 0)), (2, vi s0), (3, vi e), (9, vi k), (10, vi wr), (11, vi tb)] [vi (aHolds a k 0)] w258
    refine j_aload_n hJ 3 dL_law_261 rfl ?_
    refine j_iload hJ 6 dL_law_262 rfl ?_
    refine j_iconst hJ dL_law_264 ?_
    refine j_callC hJ hw258 lk_L_92 dL_law_265 (fun I R π sg hI hA => k_holds I R π sg a hI hA _ (by omega) _ (by omega)) (fun h => h) (by decide) rfl rfl (Nat.le_of_ble_eq_true rfl) (fun w265 hw265 => ?_)
    have hw265 : WA a w265 := hw265
    show J 268 [(8, vi (ls + (aLines a k))), (13, vi (aLines a k)), (0, .ref sb), (1, .ref (b + 0)), (2, vi s0), (3, vi e), (9, vi k), (10, vi wr), (11, vi tb)] [vi (aHolds a k 1), vi (aHolds a k 0)] w265
    refine j_iadd hJ dL_law_268 ?_
    refine j_aload_n hJ 3 dL_law_269 rfl ?_
    refine j_iload hJ 6 dL_law_270 rfl ?_
    refine j_iconst hJ dL_law_272 ?_
    refine j_callC hJ hw265 lk_L_92 dL_law_273 (fun I R π sg hI hA => k_holds I R π sg a hI hA _ (by omega) _ (by omega)) (fun h => h) (by decide) rfl rfl (Nat.le_of_ble_eq_true rfl) (fun w273 hw273 => ?_)
    have hw273 : WA a w273 := hw273
    show J 276 [(8, vi (ls + (aLines a k))), (13, vi (aLines a k)), (0, .ref sb), (1, .ref (b + 0)), (2, vi s0), (3, vi e), (9, vi k), (10, vi wr), (11, vi tb)] [vi (aHolds a k 2), vi ((aHolds a k 0) + (aHolds a k 1))] w273
    refine j_iadd hJ dL_law_276 ?_
    refine j_aload_n hJ 3 dL_law_277 rfl ?_
    refine j_iload hJ 6 dL_law_278 rfl ?_
    refine j_iconst hJ dL_law_280 ?_
    refine j_callC hJ hw273 lk_L_92 dL_law_281 (fun I R π sg hI hA => k_holds I R π sg a hI hA _ (by omega) _ (by omega)) (fun h => h) (by decide) rfl rfl (Nat.le_of_ble_eq_true rfl) (fun w281 hw281 => ?_)
    have hw281 : WA a w281 := hw281
    show J 284 [(8, vi (ls + (aLines a k))), (13, vi (aLines a k)), (0, .ref sb), (1, .ref (b + 0)), (2, vi s0), (3, vi e), (9, vi k), (10, vi wr), (11, vi tb)] [vi (aHolds a k 3), vi (((aHolds a k 0) + (aHolds a k 1)) + (aHolds a k 2))] w281
    refine j_iadd hJ dL_law_284 ?_
    refine j_iload hJ 1 dL_law_285 rfl ?_
    refine j_aload_n hJ 3 dL_law_287 rfl ?_
    refine j_iconst hJ dL_law_288 ?_
    refine j_callC hJ hw281 lk_L_12 dL_law_289 (fun I R π sg hI hA => k_count I R π sg a hI hA _ (by omega)) (fun h => h) (by decide) rfl rfl (Nat.le_of_ble_eq_true rfl) (fun w289 hw289 => ?_)
    have hw289 : WA a w289 := hw289
    show J 292 [(8, vi (ls + (aLines a k))), (13, vi (aLines a k)), (0, .ref sb), (1, .ref (b + 0)), (2, vi s0), (3, vi e), (9, vi k), (10, vi wr), (11, vi tb)] [vi a.1.1.1, vi (aLines a k), vi ((((aHolds a k 0) + (aHolds a k 1)) + (aHolds a k 2)) + (aHolds a k 3))] w289
    refine j_imul hJ dL_law_292 ?_
    rw [hsum]
    refine j_icmpne hJ (tgt := 312) dL_law_293 (by decide) hpr hpr (fun h293 => ?_) (fun h293 => ?_)
    · exact absurd rfl h293
    · refine j_aload_n hJ 3 dL_law_296 rfl ?_
      refine j_iload hJ 6 dL_law_297 rfl ?_
      refine j_aload_n hJ 3 dL_law_299 rfl ?_
      refine j_iconst hJ dL_law_300 ?_
      refine j_callC hJ hw289 lk_L_12 dL_law_301 (fun I R π sg hI hA => k_count I R π sg a hI hA _ (by omega)) (fun h => h) (by decide) rfl rfl (Nat.le_of_ble_eq_true rfl) (fun w301 hw301 => ?_)
      have hw301 : WA a w301 := hw301
      show J 304 [(8, vi (ls + (aLines a k))), (13, vi (aLines a k)), (0, .ref sb), (1, .ref (b + 0)), (2, vi s0), (3, vi e), (9, vi k), (10, vi wr), (11, vi tb)] [vi a.1.1.1, vi k, .ref (b + 0)] w301
      refine j_callC hJ hw301 lk_L_95 dL_law_304 (fun I R π sg hI hA => k_linesWith I R π sg a hI hA _ (by omega) _ (by omega)) (fun h => h) (by decide) rfl rfl (Nat.le_of_ble_eq_true rfl) (fun w304 hw304 => ?_)
      have hw304 : WA a w304 := hw304
      show J 307 [(8, vi (ls + (aLines a k))), (13, vi (aLines a k)), (0, .ref sb), (1, .ref (b + 0)), (2, vi s0), (3, vi e), (9, vi k), (10, vi wr), (11, vi tb)] [vi (aLinesWith a k a.1.1.1)] w304
      rw [lf_lw hA hk]
      refine j_iload hJ 1 dL_law_307 rfl ?_
      refine j_icmpeq hJ (tgt := 314) dL_law_309 (by decide) (by omega) (by omega) (fun h309 => ?_) (fun h309 => ?_)
      · refine j_iconst hJ dL_law_314 ?_
        refine j_istore hJ [(14, vi 0), (8, vi (ls + (aLines a k))), (13, vi (aLines a k)), (0, .ref sb), (1, .ref (b + 0)), (2, vi s0), (3, vi e), (9, vi k), (10, vi wr), (11, vi tb)] dL_law_315 (by decide) rfl ?_
        refine j_iconst hJ dL_law_317 ?_
        refine j_istore hJ [(15, vi 0), (14, vi 0), (8, vi (ls + (aLines a k))), (13, vi (aLines a k)), (0, .ref sb), (1, .ref (b + 0)), (2, vi s0), (3, vi e), (9, vi k), (10, vi wr), (11, vi tb)] dL_law_318 (by decide) rfl ?_
        refine j_sub hJ [4, 5, 6, 7, 2, 8, 10, 3, 1, 0] rfl ?_
        refine lb_fields hJ hA hk htb rfl (fun w hw => ?_) 90 0 0 _ (by omega) (by omega) (by omega) (Or.inl ⟨rfl, rfl⟩) hw304
        refine j_aload_n hJ 1 dL_law_484 rfl ?_
        refine j_iload hJ 5 dL_law_485 rfl ?_
        refine j_iload hJ 6 dL_law_487 rfl ?_
        refine j_iconst hJ dL_law_489 ?_
        refine j_iadd hJ dL_law_490 ?_
        refine j_iconst hJ dL_law_491 ?_
        refine j_callC hJ hw lk_L_98 dL_law_492 (fun I R π sg hI hA => k_field I R π sg a hI hA _ (by omega) _ (by omega) _ (by omega)) (fun h => h) (by decide) rfl rfl (Nat.le_of_ble_eq_true rfl) (fun w492 hw492 => ?_)
        have hw492 : WA a w492 := hw492
        show J 495 [(0, .ref sb), (1, .ref (b + 0)), (2, vi s0), (3, vi e), (8, vi (ls + aLines a k)), (9, vi k), (11, vi tb), (13, vi (aLines a k)), (15, vi (tb + 1))] [vi (aField a k (tb + 1) 0)] w492
        rw [hlast]
        refine j_bipush hJ dL_law_495 (by decide) ?_
        refine j_icmpne hJ (tgt := 516) dL_law_497 (by decide) (by omega) (by omega) (fun h497 => ?_) (fun h497 => ?_)
        · exact absurd rfl h497
        · refine j_aload_n hJ 1 dL_law_500 rfl ?_
          refine j_iload hJ 5 dL_law_501 rfl ?_
          refine j_iload hJ 7 dL_law_503 rfl ?_
          refine j_callC hJ hw492 lk_L_101 dL_law_505 (fun I R π sg hI hA => k_leastColumns I R π sg a hI hA _ (by omega) _ (by omega)) (fun h => h) (by decide) rfl rfl (Nat.le_of_ble_eq_true rfl) (fun w505 hw505 => ?_)
          have hw505 : WA a w505 := hw505
          show J 508 [(0, .ref sb), (1, .ref (b + 0)), (2, vi s0), (3, vi e), (8, vi (ls + aLines a k)), (9, vi k), (11, vi tb), (13, vi (aLines a k)), (15, vi (tb + 1))] [vi (aLeast a k (aLines a k))] w505
          refine j_aload_n hJ 1 dL_law_508 rfl ?_
          refine j_iconst hJ dL_law_509 ?_
          refine j_callC hJ hw505 lk_L_12 dL_law_510 (fun I R π sg hI hA => k_count I R π sg a hI hA _ (by omega)) (fun h => h) (by decide) rfl rfl (Nat.le_of_ble_eq_true rfl) (fun w510 hw510 => ?_)
          have hw510 : WA a w510 := hw510
          show J 513 [(0, .ref sb), (1, .ref (b + 0)), (2, vi s0), (3, vi e), (8, vi (ls + aLines a k)), (9, vi k), (11, vi tb), (13, vi (aLines a k)), (15, vi (tb + 1))] [vi a.1.1.1, vi (aLeast a k (aLines a k))] w510
          refine j_icmple hJ (tgt := 518) dL_law_513 (by decide) (by omega) (by omega) (fun h513 => ?_) (fun h513 => ?_)
          · refine j_sub hJ [0, 1, 2, 3, 4, 5] rfl ?_
            exact hE _ hw510
          · exfalso
            omega
      · exact absurd rfl h309
set_option maxHeartbeats 4000000 in
set_option maxRecDepth 100000 in
theorem lb_pars (hJ : KOk code "TabLinesLaw" 19 9 b J) (hA : AbsOk a) {s0 e : Int} (hE : ∀ w : Wd, WA a w → J 524 [(0, .ref sb), (1, .ref (b + 0)), (2, vi s0), (3, vi e), (8, vi (lnG a a.1.1.2.2.toNat))] [] w) : ∀ (n j : Nat) (ls k : Int) (w : Wd), 8 < j + n → (j : Int) ≤ a.1.1.2.2 → ls = lnG a j → k = j → WA a w → J 137 [(0, .ref sb), (1, .ref (b + 0)), (2, vi s0), (3, vi e), (8, vi ls), (9, vi k)] [] w := by
  have hn8 := hA.1.2.2.1
  intro n
  induction n with
  | zero => intros; exfalso; omega
  | succ n ih =>
    intro j ls k w g1 g2 g3 g4 hw
    refine j_iload hJ 5 dL_law_137 rfl ?_
    refine j_aload_n hJ 1 dL_law_139 rfl ?_
    refine j_iconst hJ dL_law_140 ?_
    refine j_callC hJ hw lk_L_12 dL_law_141 (fun I R π sg hI hA => k_count I R π sg a hI hA _ (by omega)) (fun h => h) (by decide) rfl rfl (Nat.le_of_ble_eq_true rfl) (fun w141 hw141 => ?_)
    have hw141 : WA a w141 := hw141
    show J 144 [(0, .ref sb), (1, .ref (b + 0)), (2, vi s0), (3, vi e), (8, vi ls), (9, vi k)] [vi a.1.1.2.2, vi k] w141
    refine j_icmpge hJ (tgt := 524) dL_law_144 (by decide) (by omega) (by omega) (fun h144 => ?_) (fun h144 => ?_)
    · have hj : j = a.1.1.2.2.toNat := by omega
      rw [g3, hj]
      refine j_sub hJ [0, 1, 2, 3, 4] rfl ?_
      exact hE _ hw141
    · have hk : 0 ≤ k ∧ k ≤ a.1.1.2.2 - 1 := by omega
      have hlen := (lf_wf hA hk).1.2.1
      have hst := lnG_step (n := j) hA (by omega)
      refine j_iconst hJ dL_law_147 ?_
      refine j_istore hJ [(10, vi 0), (0, .ref sb), (1, .ref (b + 0)), (2, vi s0), (3, vi e), (8, vi ls), (9, vi k)] dL_law_148 (by decide) rfl ?_
      refine j_iconst hJ dL_law_150 ?_
      refine j_istore hJ [(11, vi 0), (10, vi 0), (0, .ref sb), (1, .ref (b + 0)), (2, vi s0), (3, vi e), (8, vi ls), (9, vi k)] dL_law_151 (by decide) rfl ?_
      refine j_iconst hJ dL_law_153 ?_
      refine j_istore hJ [(12, vi 0), (11, vi 0), (10, vi 0), (0, .ref sb), (1, .ref (b + 0)), (2, vi s0), (3, vi e), (8, vi ls), (9, vi k)] dL_law_154 (by decide) rfl ?_
      refine j_aload_n hJ 4 dL_law_156 rfl ?_
      refine j_iload hJ 8 dL_law_157 rfl ?_
      refine j_iconst hJ dL_law_159 ?_
      refine j_callF hJ hw141 lk_L_34 dL_law_160 (fun I R π sg hI hA => k_character I R π sg a hI hA _ (by omega) _ (by omega)) (by decide) rfl rfl (Nat.le_of_ble_eq_true rfl) ?_
      refine j_istore hJ [(13, vi (aCharQ a k 0)), (12, vi 0), (11, vi 0), (10, vi 0), (0, .ref sb), (1, .ref (b + 0)), (2, vi s0), (3, vi e), (8, vi ls), (9, vi k)] dL_law_163 (by decide) rfl ?_
      refine j_sub hJ [4, 5, 6, 7, 8, 9, 3, 2, 1, 0] rfl ?_
      refine lb_chars hJ hA hk hw141 ?_ 82 0 _ _ _ _ (by omega) (by omega) rfl rfl rfl rfl
      refine lb_par hJ hA hk rfl rfl (fun w hw => ?_) hw141
      refine j_iinc hJ [(9, vi (k + 1)), (0, .ref sb), (1, .ref (b + 0)), (2, vi s0), (3, vi e), (8, vi (ls + aLines a k))] 5 dL_law_518 rfl (by decide) rfl ?_
      refine j_goto hJ (tgt := 137) dL_law_521 (by decide) ?_
      refine j_sub hJ [1, 2, 3, 4, 5, 0] rfl ?_
      exact ih (j + 1) _ _ _ (by omega) (by omega) (by rw [hst, g3, g4]) (by omega) hw
set_option maxHeartbeats 4000000 in
set_option maxRecDepth 100000 in
theorem lb_rounds (hJ : KOk code "TabLinesLaw" 19 9 b J) {L : Nat} {xs : Nat → Int32} (hX : KOkX sb L xs b J) (hE : ∀ (lv : List (Nat × Value)) (w : Wd), J 566 lv [vi 1] w) : ∀ (n : Nat) (e : Int) (a : AS) (w : Wd), 36 < e + n → 0 ≤ e ∧ e ≤ 36 → WA a w → J 12 [(0, .ref sb), (1, .ref (b + 0)), (2, vi ((a.2.1 : Int))), (3, vi e)] [] w := by
  intro n
  induction n with
  | zero => intros; exfalso; omega
  | succ n ih =>
    intro e a w g1 g2 hw
    have hA := hw.1
    have h6 := hA.2.1
    refine j_iload_n hJ 3 dL_law_12 rfl ?_
    refine j_bipush hJ dL_law_13 (by decide) ?_
    refine j_icmpge hJ (tgt := 542) dL_law_15 (by decide) (by omega) (by omega) (fun h15 => ?_) (fun h15 => ?_)
    · refine j_aload_n hJ 1 dL_law_542 rfl ?_
      refine j_callC hJ hw lk_L_85 dL_law_543 (fun I R π sg hI hA => k_undo I R π sg a hI hA) (fun h => h.undo) (by decide) rfl rfl (Nat.le_of_ble_eq_true rfl) (fun w543 hw543 => ?_)
      have hw543 : WA (aUndo a).2 w543 := hw543
      show J 546 [(0, .ref sb), (1, .ref (b + 0)), (2, vi ((a.2.1 : Int))), (3, vi e)] [vi ((aUndo a).1)] w543
      have hu : (aUndo a).1 = if a.2.1 = 0 then -2 else (a.2.1 : Int) - 1 := by
        unfold aUndo
        split <;> rfl
      rw [hu]
      refine j_iload_n hJ 2 dL_law_546 rfl ?_
      refine j_ifne hJ (tgt := 555) dL_law_547 (by decide) (by omega) (fun h547 => ?_) (fun h547 => ?_)
      · rw [if_neg (show ¬ a.2.1 = 0 by omega)]
        refine j_iload_n hJ 2 dL_law_555 rfl ?_
        refine j_iconst hJ dL_law_556 ?_
        refine j_isub hJ dL_law_557 ?_
        refine j_icmpne hJ (tgt := 565) dL_law_558 (by decide) (by omega) (by omega) (fun h558 => ?_) (fun h558 => ?_)
        · exact absurd rfl h558
        · refine j_iconst hJ dL_law_561 ?_
          refine j_goto hJ (tgt := 566) dL_law_562 (by decide) ?_
          exact hE _ _
      · rw [if_pos (show a.2.1 = 0 by omega)]
        refine j_bipush hJ dL_law_550 (by decide) ?_
        refine j_goto hJ (tgt := 558) dL_law_552 (by decide) ?_
        refine j_icmpne hJ (tgt := 565) dL_law_558 (by decide) (by omega) (by omega) (fun h558 => ?_) (fun h558 => ?_)
        · exact absurd rfl h558
        · refine j_iconst hJ dL_law_561 ?_
          refine j_goto hJ (tgt := 566) dL_law_562 (by decide) ?_
          exact hE _ _
    · refine j_sub hJ [0, 1, 2, 3] rfl ?_
      refine lb_ops hJ hX (by omega) (fun a w hw => ?_) hw
      have hA := hw.1
      have h6 := hA.2.1
      have hn8 := hA.1.2.2.1
      have hlb := lnG_bd hA a.1.1.2.2.toNat (by omega)
      refine j_aload_n hJ 1 dL_law_120 rfl ?_
      refine j_iconst hJ dL_law_121 ?_
      refine j_callC hJ hw lk_L_12 dL_law_122 (fun I R π sg hI hA => k_count I R π sg a hI hA _ (by omega)) (fun h => h) (by decide) rfl rfl (Nat.le_of_ble_eq_true rfl) (fun w122 hw122 => ?_)
      have hw122 : WA a w122 := hw122
      show J 125 [(0, .ref sb), (1, .ref (b + 0)), (2, vi ((a.2.1 : Int))), (3, vi e)] [vi ((a.2.1 : Int))] w122
      refine j_iload_n hJ 2 dL_law_125 rfl ?_
      refine j_icmpeq hJ (tgt := 131) dL_law_126 (by decide) (by omega) (by omega) (fun h126 => ?_) (fun h126 => ?_)
      · refine j_iconst hJ dL_law_131 ?_
        refine j_istore hJ [(8, vi 0), (0, .ref sb), (1, .ref (b + 0)), (2, vi ((a.2.1 : Int))), (3, vi e)] dL_law_132 (by decide) rfl ?_
        refine j_iconst hJ dL_law_134 ?_
        refine j_istore hJ [(9, vi 0), (8, vi 0), (0, .ref sb), (1, .ref (b + 0)), (2, vi ((a.2.1 : Int))), (3, vi e)] dL_law_135 (by decide) rfl ?_
        refine j_sub hJ [2, 3, 4, 5, 1, 0] rfl ?_
        refine lb_pars hJ hA (fun w hw => ?_) 9 0 _ _ _ (by omega) (by omega) rfl rfl hw122
        refine j_iload hJ 4 dL_law_524 rfl ?_
        refine j_aload_n hJ 1 dL_law_526 rfl ?_
        refine j_iconst hJ dL_law_527 ?_
        refine j_callC hJ hw lk_L_12 dL_law_528 (fun I R π sg hI hA => k_count I R π sg a hI hA _ (by omega)) (fun h => h) (by decide) rfl rfl (Nat.le_of_ble_eq_true rfl) (fun w528 hw528 => ?_)
        have hw528 : WA a w528 := hw528
        show J 531 [(0, .ref sb), (1, .ref (b + 0)), (2, vi ((a.2.1 : Int))), (3, vi e), (8, vi (lnG a a.1.1.2.2.toNat))] [vi (lnG a a.1.1.2.2.toNat), vi (lnG a a.1.1.2.2.toNat)] w528
        refine j_icmpeq hJ (tgt := 536) dL_law_531 (by decide) (by omega) (by omega) (fun h531 => ?_) (fun h531 => ?_)
        · refine j_iinc hJ [(3, vi (e + 1)), (0, .ref sb), (1, .ref (b + 0)), (2, vi ((a.2.1 : Int))), (8, vi (lnG a a.1.1.2.2.toNat))] 3 dL_law_536 rfl (by decide) rfl ?_
          refine j_goto hJ (tgt := 12) dL_law_539 (by decide) ?_
          refine j_sub hJ [1, 2, 3, 0] rfl ?_
          exact ih _ a _ (by omega) (by omega) hw528
        · exact absurd rfl h531
      · exact absurd rfl h126
end LB
