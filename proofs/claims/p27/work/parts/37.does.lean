/-! the law's small methods: low, does -/
section RX
variable {cc : ByteArray} {own : String} {nL : Nat} {rt : Option FieldType} {ini : Bool} {d mc ms : Nat} {Post : Option MV → Wd → Prop} {uc us pc : Nat} {ls : List (Option MV)} {st : List MV} {w : Wd}
theorem r_ishrX {x y : Int} (hdg : decode cc pc = .ok (.ishr, 1)) (k : ∀ z : Int, -2147483648 ≤ z ∧ z ≤ 2147483647 → WW cc own nL rt ini d mc ms Post uc us (pc + 1) ls (.inl z :: st) w) : WW cc own nL rt ini d mc ms Post uc us pc ls (.inl y :: .inl x :: st) w := by
  intro l D dA b p e_ s m args below meth c H locs A hC hb0 hS hR hL
  have k := k (Int32.ofInt x >>> (Int32.ofInt y &&& 31)).toInt (rgx _) l D dA b p e_ s m args below meth c H locs A hC hb0 hS hR hL
  refine lv_ishr hC.1 hC.2.1 hdg ?_
  have e : tv b (.inl (Int32.ofInt x >>> (Int32.ofInt y &&& 31)).toInt) = .int (Int32.ofInt x >>> (Int32.ofInt y &&& 31)) := by
    show Value.int (Int32.ofInt _) = _
    rw [Int32.ofInt_toInt]
  rw [List.map_cons, e] at k
  exact k
theorem r_iandX {x y : Int} (hdg : decode cc pc = .ok (.iand, 1)) (k : ∀ z : Int, -2147483648 ≤ z ∧ z ≤ 2147483647 → WW cc own nL rt ini d mc ms Post uc us (pc + 1) ls (.inl z :: st) w) : WW cc own nL rt ini d mc ms Post uc us pc ls (.inl y :: .inl x :: st) w := by
  intro l D dA b p e_ s m args below meth c H locs A hC hb0 hS hR hL
  have k := k (Int32.ofInt x &&& Int32.ofInt y).toInt (rgx _) l D dA b p e_ s m args below meth c H locs A hC hb0 hS hR hL
  refine lv_iand hC.1 hC.2.1 hdg ?_
  have e : tv b (.inl (Int32.ofInt x &&& Int32.ofInt y).toInt) = .int (Int32.ofInt x &&& Int32.ofInt y) := by
    show Value.int (Int32.ofInt _) = _
    rw [Int32.ofInt_toInt]
  rw [List.map_cons, e] at k
  exact k
theorem r_iandM {x : Int} (hdg : decode cc pc = .ok (.iand, 1)) (k : ∀ z : Int, 0 ≤ z ∧ z ≤ 2147483647 → WW cc own nL rt ini d mc ms Post uc us (pc + 1) ls (.inl z :: st) w) : WW cc own nL rt ini d mc ms Post uc us pc ls (.inl 2147483647 :: .inl x :: st) w := by
  intro l D dA b p e_ s m args below meth c H locs A hC hb0 hS hR hL
  have hm := Jvm.Kit.i32_mask (Int32.ofInt x) (Int32.ofInt 2147483647) (k := 31) (by decide) (by decide)
  have h1 := Int.emod_nonneg (Int32.ofInt x).toInt (show (2 : Int) ^ 31 ≠ 0 by decide)
  have h2 := rgx (Int32.ofInt x &&& Int32.ofInt 2147483647)
  have k := k (Int32.ofInt x &&& Int32.ofInt 2147483647).toInt ⟨by rw [hm]; exact h1, h2.2⟩ l D dA b p e_ s m args below meth c H locs A hC hb0 hS hR hL
  refine lv_iand hC.1 hC.2.1 hdg ?_
  have e : tv b (.inl (Int32.ofInt x &&& Int32.ofInt 2147483647).toInt) = .int (Int32.ofInt x &&& Int32.ofInt 2147483647) := by
    show Value.int (Int32.ofInt _) = _
    rw [Int32.ofInt_toInt]
  rw [List.map_cons, e] at k
  exact k
end RX
set_option maxHeartbeats 4000000 in
set_option maxRecDepth 100000 in
theorem c_low (I : Mem) (R : RMem) (v n : Int) (hv : -2147483648 ≤ v ∧ v ≤ 2147483647) (hn : 0 < n ∧ n ≤ 2147483647) : CC 0 0 0 yL_low cL_low 2 (some .int) [.inl (v), .inl (n)] (290, ShF, I, R) (PY (fun z => 0 ≤ z ∧ z < n) I R) := by
  refine CC_of (own := "TabLinesLaw") (ini := false) (by decide +kernel) rfl (fun h => absurd h (by decide)) (Nat.le_of_ble_eq_true rfl) ?_
  show WW cL_low "TabLinesLaw" 2 (some .int) false 0 0 0 (PY (fun z => 0 ≤ z ∧ z < n) I R) 0 0 0 [some (.inl (v)), some (.inl (n))] [] (290, ShF, I, R)
  refine r_iload_n dL_low_0 rfl ?_
  refine q_ldc (z := 2147483647) co_L_7 rfl dL_low_1 ?_
  refine r_iandM dL_low_3 (fun z hz => ?_)
  refine r_iload_n dL_low_4 rfl ?_
  refine r_irem dL_low_5 hz hn ?_
  refine q_iretY dL_low_6 rfl ?_
  exact ⟨Int.emod_nonneg _ (by omega), Int.emod_lt_of_pos _ hn.1⟩
set_option maxHeartbeats 4000000 in
set_option maxRecDepth 100000 in
theorem c_does (I : Mem) (R : RMem) (π sg : Nat → Nat) (a : AS) (hI : CI I R π sg a) (hA : AbsOk a) (v : Int) (hv : -2147483648 ≤ v ∧ v ≤ 2147483647) : CC 5 0 0 yL_does cL_does 4 (some .int) [.inr (some 0), .inl (v)] (290, ShF, I, R) (PZR (fun z I1 R1 => ∃ a1 : AS, OkC a (z, a1) ∧ ∃ π1 sg1 : Nat → Nat, CI I1 R1 π1 sg1 a1)) := by
  refine CC_of (own := "TabLinesLaw") (ini := false) (by decide +kernel) rfl (fun h => absurd h (by decide)) (Nat.le_of_ble_eq_true rfl) ?_
  show WW cL_does "TabLinesLaw" 4 (some .int) false 5 0 0 (PZR (fun z I1 R1 => ∃ a1 : AS, OkC a (z, a1) ∧ ∃ π1 sg1 : Nat → Nat, CI I1 R1 π1 sg1 a1)) 0 0 0 [some (.inr (some 0)), some (.inl (v)), none, none] [] (290, ShF, I, R)
  refine r_iload_n dL_does_0 rfl ?_
  refine r_iconst dL_does_1 ?_
  refine r_ishrX dL_does_2 (fun x2 hx2 => ?_)
  refine r_iconst dL_does_3 ?_
  refine q_callSY lk_L_37 dL_does_4 (c_low I R _ _ (by omega) (by decide)) (by decide) rfl rfl (Nat.le_of_ble_eq_true rfl) (by decide) (fun z4 hz4 => ?_)
  refine r_istore_n dL_does_7 (by decide) ?_
  dsimp only [lset]
  refine r_iload_n dL_does_8 rfl ?_
  refine r_bipush dL_does_9 (by decide) ?_
  refine r_ishrX dL_does_11 (fun x11 hx11 => ?_)
  refine r_iconst dL_does_12 ?_
  refine q_callSY lk_L_37 dL_does_13 (c_low I R _ _ (by omega) (by decide)) (by decide) rfl rfl (Nat.le_of_ble_eq_true rfl) (by decide) (fun z13 hz13 => ?_)
  refine r_istore_n dL_does_16 (by decide) ?_
  dsimp only [lset]
  refine r_iload_n dL_does_17 rfl ?_
  refine r_bipush dL_does_18 (by decide) ?_
  refine r_iandX dL_does_20 (fun x20 hx20 => ?_)
  rcases (show x20 = 0 ∨ x20 = 1 ∨ x20 = 2 ∨ x20 = 3 ∨ x20 = 4 ∨ x20 = 5 ∨ x20 = 6 ∨ x20 = 7 ∨ x20 = 8 ∨ x20 = 9 ∨ x20 = 10 ∨ x20 = 11 ∨ (x20 < 0 ∨ 11 < x20) by omega) with hq | hq | hq | hq | hq | hq | hq | hq | hq | hq | hq | hq | hq
  · refine r_tsIn (tgt := 84) dL_does_21 (by omega) (by omega) (by rw [hq]; rfl) (by decide) ?_
    refine r_aload_n dL_does_84 rfl ?_
    refine r_iload_n dL_does_85 rfl ?_
    refine r_iconst dL_does_86 ?_
    refine r_ishrX dL_does_87 (fun x87 hx87 => ?_)
    refine r_iconst dL_does_88 ?_
    refine q_callSY lk_L_37 dL_does_89 (c_low I R _ _ (by omega) (by decide)) (by decide) rfl rfl (Nat.le_of_ble_eq_true rfl) (by decide) (fun z89 hz89 => ?_)
    refine r_bipush dL_does_92 (by decide) ?_
    refine q_callVZR lk_L_42 dL_does_94 (k_setNumber I R π sg a hI hA _ (by omega) _ (by omega)) (by decide) sf_0 rfl rfl (Nat.le_of_ble_eq_true rfl) (by decide) (fun z9 I1 R1 hP => ?_)
    obtain ⟨rfl, h2, -⟩ := hP
    refine q_iretZR dL_does_97 rfl ?_
    exact ⟨_, op_setNumber hA _ _, h2⟩
  · refine r_tsIn (tgt := 98) dL_does_21 (by omega) (by omega) (by rw [hq]; rfl) (by decide) ?_
    refine r_aload_n dL_does_98 rfl ?_
    refine r_iconst dL_does_99 ?_
    refine r_bipush dL_does_100 (by decide) ?_
    refine r_iload_n dL_does_102 rfl ?_
    refine r_iconst dL_does_103 ?_
    refine r_ishrX dL_does_104 (fun x104 hx104 => ?_)
    refine r_bipush dL_does_105 (by decide) ?_
    refine q_callSY lk_L_37 dL_does_107 (c_low I R _ _ (by omega) (by decide)) (by decide) rfl rfl (Nat.le_of_ble_eq_true rfl) (by decide) (fun z107 hz107 => ?_)
    refine r_iadd dL_does_110 ?_
    refine q_callVZR lk_L_42 dL_does_111 (k_setNumber I R π sg a hI hA _ (by omega) _ (by omega)) (by decide) sf_0 rfl rfl (Nat.le_of_ble_eq_true rfl) (by decide) (fun z9 I1 R1 hP => ?_)
    obtain ⟨rfl, h2, -⟩ := hP
    refine q_iretZR dL_does_114 rfl ?_
    exact ⟨_, op_setNumber hA _ _, h2⟩
  · refine r_tsIn (tgt := 115) dL_does_21 (by omega) (by omega) (by rw [hq]; rfl) (by decide) ?_
    refine r_aload_n dL_does_115 rfl ?_
    refine r_iload_n dL_does_116 rfl ?_
    refine r_iload_n dL_does_117 rfl ?_
    refine r_bipush dL_does_118 (by decide) ?_
    refine r_ishrX dL_does_120 (fun x120 hx120 => ?_)
    refine r_iconst dL_does_121 ?_
    refine q_callSY lk_L_37 dL_does_122 (c_low I R _ _ (by omega) (by decide)) (by decide) rfl rfl (Nat.le_of_ble_eq_true rfl) (by decide) (fun z122 hz122 => ?_)
    refine r_iload_n dL_does_125 rfl ?_
    refine r_bipush dL_does_126 (by decide) ?_
    refine r_ishrX dL_does_128 (fun x128 hx128 => ?_)
    refine r_bipush dL_does_129 (by decide) ?_
    refine q_callSY lk_L_37 dL_does_131 (c_low I R _ _ (by omega) (by decide)) (by decide) rfl rfl (Nat.le_of_ble_eq_true rfl) (by decide) (fun z131 hz131 => ?_)
    refine q_callVZR lk_L_45 dL_does_134 (k_setIndent I R π sg a hI hA _ (by omega) _ (by omega) _ (by omega)) (by decide) sf_0 rfl rfl (Nat.le_of_ble_eq_true rfl) (by decide) (fun z9 I1 R1 hP => ?_)
    obtain ⟨rfl, h2, -⟩ := hP
    refine q_iretZR dL_does_137 rfl ?_
    exact ⟨_, op_setIndent hA _ _ _, h2⟩
  · refine r_tsIn (tgt := 138) dL_does_21 (by omega) (by omega) (by rw [hq]; rfl) (by decide) ?_
    refine r_aload_n dL_does_138 rfl ?_
    refine r_iload_n dL_does_139 rfl ?_
    refine r_iconst dL_does_140 ?_
    refine r_iload_n dL_does_141 rfl ?_
    refine r_bipush dL_does_142 (by decide) ?_
    refine r_ishrX dL_does_144 (fun x144 hx144 => ?_)
    refine r_bipush dL_does_145 (by decide) ?_
    refine q_callSY lk_L_37 dL_does_147 (c_low I R _ _ (by omega) (by decide)) (by decide) rfl rfl (Nat.le_of_ble_eq_true rfl) (by decide) (fun z147 hz147 => ?_)
    refine r_iadd dL_does_150 ?_
    refine r_iload_n dL_does_151 rfl ?_
    refine r_bipush dL_does_152 (by decide) ?_
    refine r_ishrX dL_does_154 (fun x154 hx154 => ?_)
    refine r_iconst dL_does_155 ?_
    refine q_callSY lk_L_37 dL_does_156 (c_low I R _ _ (by omega) (by decide)) (by decide) rfl rfl (Nat.le_of_ble_eq_true rfl) (by decide) (fun z156 hz156 => ?_)
    refine r_iload_n dL_does_159 rfl ?_
    refine r_bipush dL_does_160 (by decide) ?_
    refine r_ishrX dL_does_162 (fun x162 hx162 => ?_)
    refine r_iconst dL_does_163 ?_
    refine q_callSY lk_L_37 dL_does_164 (c_low I R _ _ (by omega) (by decide)) (by decide) rfl rfl (Nat.le_of_ble_eq_true rfl) (by decide) (fun z164 hz164 => ?_)
    refine q_callVZR lk_L_48 dL_does_167 (k_setStop I R π sg a hI hA _ (by omega) _ (by omega) _ (by omega) _ (by omega)) (by decide) sf_0 rfl rfl (Nat.le_of_ble_eq_true rfl) (by decide) (fun z9 I1 R1 hP => ?_)
    obtain ⟨rfl, h2, -⟩ := hP
    refine q_iretZR dL_does_170 rfl ?_
    exact ⟨_, op_setStop hA _ _ _ _, h2⟩
  · refine r_tsIn (tgt := 138) dL_does_21 (by omega) (by omega) (by rw [hq]; rfl) (by decide) ?_
    refine r_aload_n dL_does_138 rfl ?_
    refine r_iload_n dL_does_139 rfl ?_
    refine r_iconst dL_does_140 ?_
    refine r_iload_n dL_does_141 rfl ?_
    refine r_bipush dL_does_142 (by decide) ?_
    refine r_ishrX dL_does_144 (fun x144 hx144 => ?_)
    refine r_bipush dL_does_145 (by decide) ?_
    refine q_callSY lk_L_37 dL_does_147 (c_low I R _ _ (by omega) (by decide)) (by decide) rfl rfl (Nat.le_of_ble_eq_true rfl) (by decide) (fun z147 hz147 => ?_)
    refine r_iadd dL_does_150 ?_
    refine r_iload_n dL_does_151 rfl ?_
    refine r_bipush dL_does_152 (by decide) ?_
    refine r_ishrX dL_does_154 (fun x154 hx154 => ?_)
    refine r_iconst dL_does_155 ?_
    refine q_callSY lk_L_37 dL_does_156 (c_low I R _ _ (by omega) (by decide)) (by decide) rfl rfl (Nat.le_of_ble_eq_true rfl) (by decide) (fun z156 hz156 => ?_)
    refine r_iload_n dL_does_159 rfl ?_
    refine r_bipush dL_does_160 (by decide) ?_
    refine r_ishrX dL_does_162 (fun x162 hx162 => ?_)
    refine r_iconst dL_does_163 ?_
    refine q_callSY lk_L_37 dL_does_164 (c_low I R _ _ (by omega) (by decide)) (by decide) rfl rfl (Nat.le_of_ble_eq_true rfl) (by decide) (fun z164 hz164 => ?_)
    refine q_callVZR lk_L_48 dL_does_167 (k_setStop I R π sg a hI hA _ (by omega) _ (by omega) _ (by omega) _ (by omega)) (by decide) sf_0 rfl rfl (Nat.le_of_ble_eq_true rfl) (by decide) (fun z9 I1 R1 hP => ?_)
    obtain ⟨rfl, h2, -⟩ := hP
    refine q_iretZR dL_does_170 rfl ?_
    exact ⟨_, op_setStop hA _ _ _ _, h2⟩
  · refine r_tsIn (tgt := 138) dL_does_21 (by omega) (by omega) (by rw [hq]; rfl) (by decide) ?_
    refine r_aload_n dL_does_138 rfl ?_
    refine r_iload_n dL_does_139 rfl ?_
    refine r_iconst dL_does_140 ?_
    refine r_iload_n dL_does_141 rfl ?_
    refine r_bipush dL_does_142 (by decide) ?_
    refine r_ishrX dL_does_144 (fun x144 hx144 => ?_)
    refine r_bipush dL_does_145 (by decide) ?_
    refine q_callSY lk_L_37 dL_does_147 (c_low I R _ _ (by omega) (by decide)) (by decide) rfl rfl (Nat.le_of_ble_eq_true rfl) (by decide) (fun z147 hz147 => ?_)
    refine r_iadd dL_does_150 ?_
    refine r_iload_n dL_does_151 rfl ?_
    refine r_bipush dL_does_152 (by decide) ?_
    refine r_ishrX dL_does_154 (fun x154 hx154 => ?_)
    refine r_iconst dL_does_155 ?_
    refine q_callSY lk_L_37 dL_does_156 (c_low I R _ _ (by omega) (by decide)) (by decide) rfl rfl (Nat.le_of_ble_eq_true rfl) (by decide) (fun z156 hz156 => ?_)
    refine r_iload_n dL_does_159 rfl ?_
    refine r_bipush dL_does_160 (by decide) ?_
    refine r_ishrX dL_does_162 (fun x162 hx162 => ?_)
    refine r_iconst dL_does_163 ?_
    refine q_callSY lk_L_37 dL_does_164 (c_low I R _ _ (by omega) (by decide)) (by decide) rfl rfl (Nat.le_of_ble_eq_true rfl) (by decide) (fun z164 hz164 => ?_)
    refine q_callVZR lk_L_48 dL_does_167 (k_setStop I R π sg a hI hA _ (by omega) _ (by omega) _ (by omega) _ (by omega)) (by decide) sf_0 rfl rfl (Nat.le_of_ble_eq_true rfl) (by decide) (fun z9 I1 R1 hP => ?_)
    obtain ⟨rfl, h2, -⟩ := hP
    refine q_iretZR dL_does_170 rfl ?_
    exact ⟨_, op_setStop hA _ _ _ _, h2⟩
  · refine r_tsIn (tgt := 171) dL_does_21 (by omega) (by omega) (by rw [hq]; rfl) (by decide) ?_
    refine r_aload_n dL_does_171 rfl ?_
    refine r_iload_n dL_does_172 rfl ?_
    refine r_iconst dL_does_173 ?_
    refine r_iload_n dL_does_174 rfl ?_
    refine r_bipush dL_does_175 (by decide) ?_
    refine r_ishrX dL_does_177 (fun x177 hx177 => ?_)
    refine r_bipush dL_does_178 (by decide) ?_
    refine q_callSY lk_L_37 dL_does_180 (c_low I R _ _ (by omega) (by decide)) (by decide) rfl rfl (Nat.le_of_ble_eq_true rfl) (by decide) (fun z180 hz180 => ?_)
    refine r_iadd dL_does_183 ?_
    refine r_iconst dL_does_184 ?_
    refine r_iconst dL_does_185 ?_
    refine q_callVZR lk_L_48 dL_does_186 (k_setStop I R π sg a hI hA _ (by omega) _ (by omega) _ (by omega) _ (by omega)) (by decide) sf_0 rfl rfl (Nat.le_of_ble_eq_true rfl) (by decide) (fun z9 I1 R1 hP => ?_)
    obtain ⟨rfl, h2, -⟩ := hP
    refine q_iretZR dL_does_189 rfl ?_
    exact ⟨_, op_setStop hA _ _ _ _, h2⟩
  · refine r_tsIn (tgt := 190) dL_does_21 (by omega) (by omega) (by rw [hq]; rfl) (by decide) ?_
    refine r_aload_n dL_does_190 rfl ?_
    refine r_iload_n dL_does_191 rfl ?_
    refine r_iload_n dL_does_192 rfl ?_
    refine r_bipush dL_does_193 (by decide) ?_
    refine r_ishrX dL_does_195 (fun x195 hx195 => ?_)
    refine r_iconst dL_does_196 ?_
    refine q_callSY lk_L_37 dL_does_197 (c_low I R _ _ (by omega) (by decide)) (by decide) rfl rfl (Nat.le_of_ble_eq_true rfl) (by decide) (fun z197 hz197 => ?_)
    refine q_callVZR lk_L_52 dL_does_200 (k_removeStop I R π sg a hI hA _ (by omega) _ (by omega)) (by decide) sf_0 rfl rfl (Nat.le_of_ble_eq_true rfl) (by decide) (fun z9 I1 R1 hP => ?_)
    obtain ⟨rfl, h2, -⟩ := hP
    refine q_iretZR dL_does_203 rfl ?_
    exact ⟨_, op_removeStop hA _ _, h2⟩
  · refine r_tsIn (tgt := 204) dL_does_21 (by omega) (by omega) (by rw [hq]; rfl) (by decide) ?_
    refine r_aload_n dL_does_204 rfl ?_
    refine r_iload_n dL_does_205 rfl ?_
    refine q_callVZR lk_L_55 dL_does_206 (k_addParagraph I R π sg a hI hA _ (by omega)) (by decide) sf_0 rfl rfl (Nat.le_of_ble_eq_true rfl) (by decide) (fun z9 I1 R1 hP => ?_)
    obtain ⟨rfl, h2, -⟩ := hP
    refine q_iretZR dL_does_209 rfl ?_
    exact ⟨_, op_addPar hA _, h2⟩
  · refine r_tsIn (tgt := 210) dL_does_21 (by omega) (by omega) (by rw [hq]; rfl) (by decide) ?_
    refine r_aload_n dL_does_210 rfl ?_
    refine r_iload_n dL_does_211 rfl ?_
    refine r_iload_n dL_does_212 rfl ?_
    refine q_callVZR lk_L_58 dL_does_213 (k_setStyle I R π sg a hI hA _ (by omega) _ (by omega)) (by decide) sf_0 rfl rfl (Nat.le_of_ble_eq_true rfl) (by decide) (fun z9 I1 R1 hP => ?_)
    obtain ⟨rfl, h2, -⟩ := hP
    refine q_iretZR dL_does_216 rfl ?_
    exact ⟨_, op_setStyle hA _ _, h2⟩
  · refine r_tsIn (tgt := 217) dL_does_21 (by omega) (by omega) (by rw [hq]; rfl) (by decide) ?_
    refine r_iload_n dL_does_217 rfl ?_
    refine r_bipush dL_does_218 (by decide) ?_
    refine r_ishrX dL_does_220 (fun x220 hx220 => ?_)
    refine r_iconst dL_does_221 ?_
    refine r_iandX dL_does_222 (fun x222 hx222 => ?_)
    refine r_ifne (tgt := 234) dL_does_223 (by decide) (by omega) (fun h223 => ?_) (fun h223 => ?_)
    · refine r_aload_n dL_does_234 rfl ?_
      refine r_iload_n dL_does_235 rfl ?_
      refine r_iload_n dL_does_236 rfl ?_
      refine r_bipush dL_does_237 (by decide) ?_
      refine r_ishrX dL_does_239 (fun x239 hx239 => ?_)
      refine q_ldc (z := 100000) co_L_64 rfl dL_does_240 ?_
      refine q_callSY lk_L_37 dL_does_242 (c_low I R _ _ (by omega) (by decide)) (by decide) rfl rfl (Nat.le_of_ble_eq_true rfl) (by decide) (fun z242 hz242 => ?_)
      refine q_callVZR lk_L_65 dL_does_245 (k_addAmount I R π sg a hI hA _ (by omega) _ (by omega)) (by decide) sf_0 rfl rfl (Nat.le_of_ble_eq_true rfl) (by decide) (fun z9 I1 R1 hP => ?_)
      obtain ⟨rfl, h2, -⟩ := hP
      refine q_iretZR dL_does_248 rfl ?_
      first | exact ⟨_, op_remPar hA _, h2⟩ | exact ⟨_, op_addAmount hA _ _, h2⟩
    · refine r_aload_n dL_does_226 rfl ?_
      refine r_iload_n dL_does_227 rfl ?_
      refine q_callVZR lk_L_61 dL_does_228 (k_removeParagraph I R π sg a hI hA _ (by omega)) (by decide) sf_0 rfl rfl (Nat.le_of_ble_eq_true rfl) (by decide) (fun z9 I1 R1 hP => ?_)
      obtain ⟨rfl, h2, -⟩ := hP
      refine r_goto (tgt := 248) dL_does_231 (by decide) ?_
      refine q_iretZR dL_does_248 rfl ?_
      first | exact ⟨_, op_remPar hA _, h2⟩ | exact ⟨_, op_addAmount hA _ _, h2⟩
  · refine r_tsIn (tgt := 249) dL_does_21 (by omega) (by omega) (by rw [hq]; rfl) (by decide) ?_
    refine r_aload_n dL_does_249 rfl ?_
    refine r_iload_n dL_does_250 rfl ?_
    refine r_iload_n dL_does_251 rfl ?_
    refine r_bipush dL_does_252 (by decide) ?_
    refine r_ishrX dL_does_254 (fun x254 hx254 => ?_)
    refine q_ldc (z := 10000000) co_L_68 rfl dL_does_255 ?_
    refine q_callSY lk_L_37 dL_does_257 (c_low I R _ _ (by omega) (by decide)) (by decide) rfl rfl (Nat.le_of_ble_eq_true rfl) (by decide) (fun z257 hz257 => ?_)
    refine q_callVZR lk_L_65 dL_does_260 (k_addAmount I R π sg a hI hA _ (by omega) _ (by omega)) (by decide) sf_0 rfl rfl (Nat.le_of_ble_eq_true rfl) (by decide) (fun z9 I1 R1 hP => ?_)
    obtain ⟨rfl, h2, -⟩ := hP
    refine q_iretZR dL_does_263 rfl ?_
    exact ⟨_, op_addAmount hA _ _, h2⟩
  · refine r_tsOut (tgt := 264) dL_does_21 (by omega) hq (by decide) ?_
    refine r_aload_n dL_does_264 rfl ?_
    refine r_iload_n dL_does_265 rfl ?_
    refine r_iload_n dL_does_266 rfl ?_
    refine r_bipush dL_does_267 (by decide) ?_
    refine r_ishrX dL_does_269 (fun x269 hx269 => ?_)
    refine r_iconst dL_does_270 ?_
    refine r_iandX dL_does_271 (fun x271 hx271 => ?_)
    refine r_iload_n dL_does_272 rfl ?_
    refine r_bipush dL_does_273 (by decide) ?_
    refine r_ishrX dL_does_275 (fun x275 hx275 => ?_)
    refine r_bipush dL_does_276 (by decide) ?_
    refine q_callSY lk_L_37 dL_does_278 (c_low I R _ _ (by omega) (by decide)) (by decide) rfl rfl (Nat.le_of_ble_eq_true rfl) (by decide) (fun z278 hz278 => ?_)
    refine r_iconst dL_does_281 ?_
    refine r_iload_n dL_does_282 rfl ?_
    refine r_bipush dL_does_283 (by decide) ?_
    refine r_ishrX dL_does_285 (fun x285 hx285 => ?_)
    refine r_bipush dL_does_286 (by decide) ?_
    refine q_callSY lk_L_37 dL_does_288 (c_low I R _ _ (by omega) (by decide)) (by decide) rfl rfl (Nat.le_of_ble_eq_true rfl) (by decide) (fun z288 hz288 => ?_)
    refine r_iadd dL_does_291 ?_
    refine q_callVZR lk_L_69 dL_does_292 (k_addWord I R π sg a hI hA _ (by omega) _ (by omega) _ (by omega) _ (by omega)) (by decide) sf_0 rfl rfl (Nat.le_of_ble_eq_true rfl) (by decide) (fun z9 I1 R1 hP => ?_)
    obtain ⟨rfl, h2, -⟩ := hP
    refine q_iretZR dL_does_295 rfl ?_
    exact ⟨_, op_addWord hA _ _ _ _, h2⟩
