/-! the digest's walk -/
section TJ
variable {b : Nat} {J : Nat → List (Nat × Value) → List Value → Wd → Prop} {a : AS}
set_option maxHeartbeats 4000000 in
set_option maxRecDepth 100000 in
theorem tj_chars (hJ : KOk cL_tale "TabLinesLaw" 5 8 b J) {k : Int} (hk : 0 ≤ k ∧ k ≤ 7) {x0 : Int64} (hE : ∀ w : Wd, WA a w → J 159 [(0, .ref (b + 0)), (1, .long (tC1 a k 27 x0)), (3, vi k)] [] w) : ∀ (n : Nat) (j : Nat) (x : Int64) (i : Int) (w : Wd), 27 < j + n → j ≤ 27 → x = tC1 a k j x0 → i = 3 * (j : Int) → WA a w → J 131 [(0, .ref (b + 0)), (1, .long x), (3, vi k), (4, vi i)] [] w := by
  intro n
  induction n with
  | zero => intros; exfalso; omega
  | succ n ih =>
    intro j x i w g1 g2 g3 g4 hw
    refine j_iload hJ 3 dL_tale_131 rfl ?_
    refine j_bipush hJ dL_tale_133 (by decide) ?_
    refine j_icmpge hJ (tgt := 159) dL_tale_135 (by decide) (by omega) (by omega) (fun h135 => ?_) (fun h135 => ?_)
    · have hj : j = 27 := by omega
      subst hj
      subst g3
      refine j_sub hJ [0, 1, 2] rfl ?_
      exact hE w hw
    · have hj : j < 27 := by omega
      refine j_lload_n hJ 1 dL_tale_138 rfl ?_
      refine j_ldc2 hJ co_L_32 dL_tale_139 ?_
      refine j_lmul hJ dL_tale_142 ?_
      refine j_aload_n hJ 0 dL_tale_143 rfl ?_
      refine j_iload_n hJ 2 dL_tale_144 rfl ?_
      refine j_iload hJ 3 dL_tale_145 rfl ?_
      refine j_callF hJ hw lk_L_34 dL_tale_147 (fun I R π sg hI hA => k_character I R π sg a hI hA _ (by omega) _ (by omega)) (by decide) rfl rfl (Nat.le_of_ble_eq_true rfl) ?_
      refine j_i2l hJ dL_tale_150 ?_
      refine j_ladd hJ dL_tale_151 ?_
      refine j_lstore_n hJ [(1, .long ((x * 43) + (i6 (aCharQ a k i)))), (0, .ref (b + 0)), (3, vi k), (4, vi i)] dL_tale_152 (by decide) rfl ?_
      refine j_iinc hJ [(4, vi (i + 3)), (1, .long ((x * 43) + (i6 (aCharQ a k i)))), (0, .ref (b + 0)), (3, vi k)] 3 dL_tale_153 rfl (by decide) rfl ?_
      refine j_goto hJ (tgt := 131) dL_tale_156 (by decide) ?_
      refine j_sub hJ [2, 1, 3, 0] rfl ?_
      exact ih (j + 1) _ _ _ (by omega) (by omega) (by rw [g3, g4]; rfl) (by omega) hw
set_option maxHeartbeats 4000000 in
set_option maxRecDepth 100000 in
theorem tj_stops (hJ : KOk cL_tale "TabLinesLaw" 5 8 b J) {k : Int} (hk : 0 ≤ k ∧ k ≤ 3) {x0 : Int64} (hE : ∀ w : Wd, WA a w → J 114 [(0, .ref (b + 0)), (1, .long (tS2 a k 8 x0)), (3, vi k)] [] w) : ∀ (n : Nat) (j : Nat) (x : Int64) (i : Int) (w : Wd), 8 < j + n → j ≤ 8 → x = tS2 a k j x0 → i = (j : Int) → WA a w → J 57 [(0, .ref (b + 0)), (1, .long x), (3, vi k), (4, vi i)] [] w := by
  intro n
  induction n with
  | zero => intros; exfalso; omega
  | succ n ih =>
    intro j x i w g1 g2 g3 g4 hw
    refine j_iload hJ 3 dL_tale_57 rfl ?_
    refine j_bipush hJ dL_tale_59 (by decide) ?_
    refine j_icmpge hJ (tgt := 114) dL_tale_61 (by decide) (by omega) (by omega) (fun h61 => ?_) (fun h61 => ?_)
    · have hj : j = 8 := by omega
      subst hj
      subst g3
      refine j_sub hJ [0, 1, 2] rfl ?_
      exact hE w hw
    · have hj : j < 8 := by omega
      refine j_lload_n hJ 1 dL_tale_64 rfl ?_
      refine j_ldc2 hJ co_L_24 dL_tale_65 ?_
      refine j_lmul hJ dL_tale_68 ?_
      refine j_aload_n hJ 0 dL_tale_69 rfl ?_
      refine j_iload_n hJ 2 dL_tale_70 rfl ?_
      refine j_iload hJ 3 dL_tale_71 rfl ?_
      refine j_iconst hJ dL_tale_73 ?_
      refine j_callF hJ hw lk_L_26 dL_tale_74 (fun I R π sg hI hA => k_stop I R π sg a hI hA _ (by omega) _ (by omega) _ (by omega)) (by decide) rfl rfl (Nat.le_of_ble_eq_true rfl) ?_
      refine j_i2l hJ dL_tale_77 ?_
      refine j_ladd hJ dL_tale_78 ?_
      refine j_ldc2 hJ co_L_8 dL_tale_79 ?_
      refine j_aload_n hJ 0 dL_tale_82 rfl ?_
      refine j_iload_n hJ 2 dL_tale_83 rfl ?_
      refine j_iload hJ 3 dL_tale_84 rfl ?_
      refine j_iconst hJ dL_tale_86 ?_
      refine j_callF hJ hw lk_L_26 dL_tale_87 (fun I R π sg hI hA => k_stop I R π sg a hI hA _ (by omega) _ (by omega) _ (by omega)) (by decide) rfl rfl (Nat.le_of_ble_eq_true rfl) ?_
      refine j_i2l hJ dL_tale_90 ?_
      refine j_lmul hJ dL_tale_91 ?_
      refine j_ladd hJ dL_tale_92 ?_
      refine j_ldc2 hJ co_L_30 dL_tale_93 ?_
      refine j_aload_n hJ 0 dL_tale_96 rfl ?_
      refine j_iload_n hJ 2 dL_tale_97 rfl ?_
      refine j_iload hJ 3 dL_tale_98 rfl ?_
      refine j_iconst hJ dL_tale_100 ?_
      refine j_callF hJ hw lk_L_26 dL_tale_101 (fun I R π sg hI hA => k_stop I R π sg a hI hA _ (by omega) _ (by omega) _ (by omega)) (by decide) rfl rfl (Nat.le_of_ble_eq_true rfl) ?_
      refine j_i2l hJ dL_tale_104 ?_
      refine j_lmul hJ dL_tale_105 ?_
      refine j_ladd hJ dL_tale_106 ?_
      refine j_lstore_n hJ [(1, .long ((((x * 41) + (i6 (aStopQ a k i 0))) + (3 * (i6 (aStopQ a k i 1)))) + (5 * (i6 (aStopQ a k i 2))))), (0, .ref (b + 0)), (3, vi k), (4, vi i)] dL_tale_107 (by decide) rfl ?_
      refine j_iinc hJ [(4, vi (i + 1)), (1, .long ((((x * 41) + (i6 (aStopQ a k i 0))) + (3 * (i6 (aStopQ a k i 1)))) + (5 * (i6 (aStopQ a k i 2))))), (0, .ref (b + 0)), (3, vi k)] 3 dL_tale_108 rfl (by decide) rfl ?_
      refine j_goto hJ (tgt := 57) dL_tale_111 (by decide) ?_
      refine j_sub hJ [2, 1, 3, 0] rfl ?_
      exact ih (j + 1) _ _ _ (by omega) (by omega) (by rw [g3, g4]; rfl) (by omega) hw
set_option maxHeartbeats 4000000 in
set_option maxRecDepth 100000 in
theorem tj_styles (hJ : KOk cL_tale "TabLinesLaw" 5 8 b J) {k : Int} (hk : 0 ≤ k ∧ k ≤ 3) {x0 : Int64} (hE : ∀ w : Wd, WA a w → J 54 [(0, .ref (b + 0)), (1, .long (tS1 a k 4 x0)), (3, vi k)] [] w) : ∀ (n : Nat) (j : Nat) (x : Int64) (i : Int) (w : Wd), 4 < j + n → j ≤ 4 → x = tS1 a k j x0 → i = (j : Int) → WA a w → J 27 [(0, .ref (b + 0)), (1, .long x), (3, vi k), (4, vi i)] [] w := by
  intro n
  induction n with
  | zero => intros; exfalso; omega
  | succ n ih =>
    intro j x i w g1 g2 g3 g4 hw
    refine j_iload hJ 3 dL_tale_27 rfl ?_
    refine j_iconst hJ dL_tale_29 ?_
    refine j_icmpge hJ (tgt := 54) dL_tale_30 (by decide) (by omega) (by omega) (fun h30 => ?_) (fun h30 => ?_)
    · have hj : j = 4 := by omega
      subst hj
      subst g3
      refine j_sub hJ [0, 1, 2] rfl ?_
      exact hE w hw
    · have hj : j < 4 := by omega
      refine j_lload_n hJ 1 dL_tale_33 rfl ?_
      refine j_ldc2 hJ co_L_18 dL_tale_34 ?_
      refine j_lmul hJ dL_tale_37 ?_
      refine j_aload_n hJ 0 dL_tale_38 rfl ?_
      refine j_iload_n hJ 2 dL_tale_39 rfl ?_
      refine j_iload hJ 3 dL_tale_40 rfl ?_
      refine j_callF hJ hw lk_L_20 dL_tale_42 (fun I R π sg hI hA => k_style I R π sg a hI hA _ (by omega) _ (by omega)) (by decide) rfl rfl (Nat.le_of_ble_eq_true rfl) ?_
      refine j_i2l hJ dL_tale_45 ?_
      refine j_ladd hJ dL_tale_46 ?_
      refine j_lstore_n hJ [(1, .long ((x * 37) + (i6 (aStyleQ a k i)))), (0, .ref (b + 0)), (3, vi k), (4, vi i)] dL_tale_47 (by decide) rfl ?_
      refine j_iinc hJ [(4, vi (i + 1)), (1, .long ((x * 37) + (i6 (aStyleQ a k i)))), (0, .ref (b + 0)), (3, vi k)] 3 dL_tale_48 rfl (by decide) rfl ?_
      refine j_goto hJ (tgt := 27) dL_tale_51 (by decide) ?_
      refine j_sub hJ [2, 1, 3, 0] rfl ?_
      exact ih (j + 1) _ _ _ (by omega) (by omega) (by rw [g3, g4]; rfl) (by omega) hw
set_option maxHeartbeats 4000000 in
set_option maxRecDepth 100000 in
theorem tj_all1 (hJ : KOk cL_tale "TabLinesLaw" 5 8 b J) (hE : ∀ w : Wd, WA a w → J 120 [(0, .ref (b + 0)), (1, .long (tK a 4))] [] w) : ∀ (n : Nat) (j : Nat) (x : Int64) (k : Int) (w : Wd), 4 < j + n → j ≤ 4 → x = tK a j → k = (j : Int) → WA a w → J 6 [(0, .ref (b + 0)), (1, .long x), (3, vi k)] [] w := by
  intro n
  induction n with
  | zero => intros; exfalso; omega
  | succ n ih =>
    intro j x k w g1 g2 g3 g4 hw
    refine j_iload_n hJ 2 dL_tale_6 rfl ?_
    refine j_iconst hJ dL_tale_7 ?_
    refine j_icmpge hJ (tgt := 120) dL_tale_8 (by decide) (by omega) (by omega) (fun h8 => ?_) (fun h8 => ?_)
    · have hj : j = 4 := by omega
      subst hj
      subst g3
      refine j_sub hJ [0, 1] rfl ?_
      exact hE w hw
    · have hj : j < 4 := by omega
      refine j_lload_n hJ 1 dL_tale_11 rfl ?_
      refine j_ldc2 hJ co_L_10 dL_tale_12 ?_
      refine j_lmul hJ dL_tale_15 ?_
      refine j_aload_n hJ 0 dL_tale_16 rfl ?_
      refine j_iload_n hJ 2 dL_tale_17 rfl ?_
      refine j_callC hJ hw lk_L_12 dL_tale_18 (fun I R π sg hI hA => k_count I R π sg a hI hA _ (by omega)) (fun h => h) (by decide) rfl rfl (Nat.le_of_ble_eq_true rfl) (fun w18 hw18 => ?_)
      show J 21 [(0, .ref (b + 0)), (1, .long x), (3, vi k)] [vi (aCount a k), .long (x * 31)] w18
      refine j_i2l hJ dL_tale_21 ?_
      refine j_ladd hJ dL_tale_22 ?_
      refine j_lstore_n hJ [(1, .long ((x * 31) + (i6 (aCount a k)))), (0, .ref (b + 0)), (3, vi k)] dL_tale_23 (by decide) rfl ?_
      refine j_iconst hJ dL_tale_24 ?_
      refine j_istore hJ [(4, vi 0), (1, .long ((x * 31) + (i6 (aCount a k)))), (0, .ref (b + 0)), (3, vi k)] dL_tale_25 (by decide) rfl ?_
      refine j_sub hJ [2, 1, 3, 0] rfl ?_
      refine tj_styles hJ (k := k) (by omega) (x0 := x * 31 + i6 (aCount a k)) ?_ 5 0 _ _ _ (by omega) (by omega) rfl (by rfl) hw18
      intro w hw
      refine j_iconst hJ dL_tale_54 ?_
      refine j_istore hJ [(4, vi 0), (0, .ref (b + 0)), (1, .long (tS1 a k 4 (x * 31 + i6 (aCount a k)))), (3, vi k)] dL_tale_55 (by decide) rfl ?_
      refine j_sub hJ [1, 2, 3, 0] rfl ?_
      refine tj_stops hJ (k := k) (by omega) (x0 := tS1 a k 4 (x * 31 + i6 (aCount a k))) ?_ 9 0 _ _ _ (by omega) (by omega) rfl (by rfl) hw
      intro w hw
      refine j_iinc hJ [(3, vi (k + 1)), (0, .ref (b + 0)), (1, .long (tS2 a k 8 (tS1 a k 4 (x * 31 + i6 (aCount a k)))))] 2 dL_tale_114 rfl (by decide) rfl ?_
      refine j_goto hJ (tgt := 6) dL_tale_117 (by decide) ?_
      refine j_sub hJ [1, 2, 0] rfl ?_
      exact ih (j + 1) _ _ _ (by omega) (by omega) (by rw [g3, g4]; rfl) (by omega) hw
set_option maxHeartbeats 4000000 in
set_option maxRecDepth 100000 in
theorem tj_all2 (hJ : KOk cL_tale "TabLinesLaw" 5 8 b J) (hE : ∀ w : Wd, WA a w → J 165 [(0, .ref (b + 0)), (1, .long (tC a 8))] [] w) : ∀ (n : Nat) (j : Nat) (x : Int64) (k : Int) (w : Wd), 8 < j + n → j ≤ 8 → x = tC a j → k = (j : Int) → WA a w → J 122 [(0, .ref (b + 0)), (1, .long x), (3, vi k)] [] w := by
  intro n
  induction n with
  | zero => intros; exfalso; omega
  | succ n ih =>
    intro j x k w g1 g2 g3 g4 hw
    refine j_iload_n hJ 2 dL_tale_122 rfl ?_
    refine j_bipush hJ dL_tale_123 (by decide) ?_
    refine j_icmpge hJ (tgt := 165) dL_tale_125 (by decide) (by omega) (by omega) (fun h125 => ?_) (fun h125 => ?_)
    · have hj : j = 8 := by omega
      subst hj
      subst g3
      refine j_sub hJ [0, 1] rfl ?_
      exact hE w hw
    · have hj : j < 8 := by omega
      refine j_iconst hJ dL_tale_128 ?_
      refine j_istore hJ [(4, vi 0), (0, .ref (b + 0)), (1, .long x), (3, vi k)] dL_tale_129 (by decide) rfl ?_
      refine j_sub hJ [1, 2, 3, 0] rfl ?_
      refine tj_chars hJ (k := k) (by omega) (x0 := x) ?_ 28 0 _ _ _ (by omega) (by omega) rfl (by rfl) hw
      intro w hw
      refine j_iinc hJ [(3, vi (k + 1)), (0, .ref (b + 0)), (1, .long (tC1 a k 27 x))] 2 dL_tale_159 rfl (by decide) rfl ?_
      refine j_goto hJ (tgt := 122) dL_tale_162 (by decide) ?_
      refine j_sub hJ [1, 2, 0] rfl ?_
      exact ih (j + 1) _ _ _ (by omega) (by omega) (by rw [g3, g4]; rfl) (by omega) hw
set_option maxHeartbeats 4000000 in
set_option maxRecDepth 100000 in
theorem tj_tale (hJ : KOk cL_tale "TabLinesLaw" 5 8 b J) {w : Wd} (hw : WA a w) (hE : ∀ (lv : List (Nat × Value)) (w : Wd), WA a w → J 166 lv [.long (talF a)] w) : J 0 [(0, .ref (b + 0))] [] w := by
  refine j_ldc2 hJ co_L_8 dL_tale_0 ?_
  refine j_lstore_n hJ [(1, .long 3), (0, .ref (b + 0))] dL_tale_3 (by decide) rfl ?_
  refine j_iconst hJ dL_tale_4 ?_
  refine j_istore_n hJ [(3, vi 0), (1, .long 3), (0, .ref (b + 0))] dL_tale_5 (by decide) rfl ?_
  refine j_sub hJ [2, 1, 0] rfl ?_
  refine tj_all1 hJ ?_ 5 0 _ _ _ (by omega) (by omega) rfl (by rfl) hw
  intro w hw
  refine j_iconst hJ dL_tale_120 ?_
  refine j_istore_n hJ [(3, vi 0), (0, .ref (b + 0)), (1, .long (tK a 4))] dL_tale_121 (by decide) rfl ?_
  refine j_sub hJ [1, 2, 0] rfl ?_
  refine tj_all2 hJ ?_ 9 0 _ _ _ (by omega) (by omega) rfl (by rfl) hw
  intro w hw
  refine j_lload_n hJ 1 dL_tale_165 rfl ?_
  exact hE _ w hw
end TJ
def QL (D : va_G) (dA : Nat → ClassId) (b : Nat) (PL : Int64 → Wd → Prop) : Array Value → State → Outcome → State → Prop := fun _ st oc t => (∃ (x : Int64) (w' : Wd), oc = .returned (some (.long x)) ∧ PL x w' ∧ Rp D dA b w' t.heap) ∧ va_F (fun q => b ≤ q) st t
theorem m_tale {a : AS} {w : Wd} (hw : WA a w) (l : Launch) (D : va_G) (dA : Nat → ClassId) (b : Nat) : Met l yL_tale (Cond.code yL_tale cL_tale 5 (some .long) :: lw_U) (rmD 8 0 0) (va_Pc [.ref (b + 0)] (fun U => Rp D dA b w U.heap ∧ EnvK D dA U)) (QL D dA b (fun x w' => x = talF a ∧ WA a w')) 0 0 (fun q => b ≤ q) := by
  refine Met.ofW (cc := cL_tale) (maxL := 5) (ret := some .long) (by decide +kernel) rfl ?_
  intro p e_ s m args below meth c s₁ B hml hv
  obtain ⟨rfl, hR, hE⟩ := hv
  have hx := B.exec
  have hb := B.bytes
  have hr := B.returns
  have hts := atoms_spec (ws := Cond.code yL_tale cL_tale 5 (some .long) :: lw_U) B.pre
  have hown : s.vm.findClass "TabLinesLaw" = some m.cls := findClass_of_methodNamed B.named
  have hlocks := B.notSynchronized
  have hl := lv_entry ([.ref (b + 0)]) (n := 5) (Nat.le_of_ble_eq_true rfl)
  rw [lg_entry_eq]
  generalize (lg_sl ([.ref (b + 0)]) ++ List.replicate (5 - (lg_sl ([.ref (b + 0)])).length) Slot.unset).toArray = ls at hl ⊢
  have hl : lv_has ls 5 [(0, .ref (b + 0))] := hl
  have hJ : KOk cL_tale "TabLinesLaw" 5 8 b (KJ p l e_ (rmD 8 0 0) s m #[.ref (b + 0)] below meth c b D dA 5 0 0 (MQ below (QL D dA b (fun x w' => x = talF a ∧ WA a w')) #[.ref (b + 0)] s 0 0 (fun q => b ≤ q))) :=
    ⟨p, l, e_, rmD 8 0 0, s, m, _, below, meth, c, D, dA, 0, 0, _, rfl, hx, hb, hml, hown, fun q hq => hts q (List.mem_cons_of_mem _ hq), hE, fun d' h => ⟨by show d' + 1 ≤ 8; omega, by show 39 + 40 * d' ≤ 40 * 8; omega⟩, Nat.zero_le _, Nat.zero_le _⟩
  refine tj_tale hJ hw (fun lv w' hw' H locs ls hS hR hl => ?_) s.heap [] ls va_S.rf hR hl
  exact W.lret hx hb hr (fun t ht hW => ⟨⟨talF a, w', rfl, ⟨rfl, hw'⟩, by rw [ht]; exact hR⟩, hS.F ht⟩) hS.2.2 dL_tale_166 hlocks
