/-! the law: its loop -/
section LWO
variable {p : Program} {l : Launch} {e_ : Env} {s : State} {m : MethodId} {below : List Frame} {meth : Method} {c : Code} {sb L : Nat} {xs : Nat → Int32} {D : va_G} {dA : Nat → ClassId}
set_option maxHeartbeats 4000000 in
set_option maxRecDepth 100000 in
theorem law_loop (hX : LX p s m meth c sb L xs D dA) : ∀ (n i : Nat) (I : Mem) (R : RMem) (π sg : Nat → Nat) (a : AS), L < i + n → i ≤ L → CI I R π sg a → MI I a → LJ p l e_ s m below meth c sb D dA 18 i [] (298, ShF, I, R) := by
  intro n
  induction n with
  | zero => intros; exfalso; omega
  | succ n ih =>
    intro i I R π sg a g1 g2 hI hM
    obtain ⟨hx, hb, hr, hml, hown, hts, hXs, hbl, hlocks, hgv⟩ := hX.1
    have hL := hX.2.2
    have hA : ¬ (fun q : Nat => s.heap.size ≤ q) sb := Nat.not_le.mpr hbl
    intro H locs ls hS hR hl
    refine lv_iload_n hx hb dL_law_18 rfl (lv_at hl 3 rfl) ?_
    refine lv_aload_n hx hb dL_law_19 rfl (lv_at hl 0 rfl) ?_
    refine va_slen hx hb hXs hbl hA hS dL_law_20 ?_
    refine lv_iconst hx hb dL_law_21 rfl ?_
    refine lv_isub hx hb dL_law_22 ?_
    have e5 : Int32.ofNat L - Int32.ofInt 5 = Int32.ofInt ((L : Int) - 5) := by
      rw [← Int32.ofInt_eq_ofNat, ← Int32.ofInt_sub]
    rw [e5]
    refine lv_icmp_gt (tgt := 912) hx hb dL_law_23 (by decide) (fun h23 => ?_) (fun h23 => ?_)
    · refine lv_iconst (v := 1) hx hb dL_law_912 rfl ?_
      refine va_forget hS.2.2 ?_
      refine W.widen (k := 600000) (n := 7302250) (Nat.le_of_ble_eq_true rfl) (Nat.le_of_ble_eq_true rfl) ?_
      exact lw_ret hx hb hr hlocks dL_law_913
    · have hi : i + 5 ≤ L := by
        rw [i32_lt (by omega) (by omega)] at h23
        omega
      have hK : ∀ (a1 : AS) (I1 : Mem) (R1 : RMem) (π1 sg1 : Nat → Nat), CI I1 R1 π1 sg1 a1 → MI I1 a1 → LJ p l e_ s m below meth c sb D dA 906 i [] (298, ShF, I1, R1) := by
        intro a1 I1 R1 π1 sg1 hI1 hM1 H locs ls hS hR hl
        have e : Int32.ofInt (i : Int) + Int32.ofInt 5 = Int32.ofInt ((i + 5 : Nat) : Int) := by
          rw [← Int32.ofInt_add]
          rfl
        refine lv_iinc (v := Int32.ofInt ((i + 5 : Nat) : Int)) (lv' := [(3, .int (Int32.ofInt ((i + 5 : Nat) : Int))), (0, .ref sb), (1, .ref s.heap.size), (2, .ref (s.heap.size + 290))]) hx hb dL_law_906 hl (k := 3) rfl e (by decide) rfl (fun ls hl => ?_)
        refine lv_goto (tgt := 18) hx hb dL_law_909 (by decide) ?_
        exact ih (i + 5) I1 R1 π1 sg1 a1 (by omega) (by omega) hI1 hM1 H locs ls hS hR (lv_sub hl [1, 2, 3, 0] rfl)
      refine lv_aload_n hx hb dL_law_26 rfl (lv_at hl 0 rfl) ?_
      refine lv_iload_n hx hb dL_law_27 rfl (lv_at hl 3 rfl) ?_
      refine va_sld hx hb hXs hbl hA hS (i32_in (by omega) (by omega)) dL_law_28 ?_
      refine lv_bipush (v := 31) hx hb dL_law_29 rfl ?_
      refine lv_iand hx hb dL_law_31 ?_
      generalize xs (Int32.ofInt (i : Int)).toNatClampNeg &&& 31 = t
      rcases (show t.toInt = 0 ∨ t.toInt = 1 ∨ t.toInt = 2 ∨ t.toInt = 3 ∨ t.toInt = 4 ∨ t.toInt = 5 ∨ t.toInt = 6 ∨ t.toInt = 7 ∨ t.toInt = 8 ∨ t.toInt = 9 ∨ t.toInt = 10 ∨ t.toInt = 11 ∨ t.toInt = 12 ∨ t.toInt = 13 ∨ t.toInt = 14 ∨ t.toInt = 15 ∨ t.toInt = 16 ∨ t.toInt = 17 ∨ t.toInt = 18 ∨ t.toInt = 19 ∨ t.toInt = 20 ∨ t.toInt = 21 ∨ t.toInt = 22 ∨ t.toInt = 23 ∨ (t.toInt < 0 ∨ 23 < t.toInt) by omega) with ht | ht | ht | ht | ht | ht | ht | ht | ht | ht | ht | ht | ht | ht | ht | ht | ht | ht | ht | ht | ht | ht | ht | ht | ht
      · refine lv_tableIn (tgt := 144) hx hb dL_law_32 (by omega) (by omega) (by rw [ht]; rfl) (by decide) ?_
        exact lc_0 hX hi hI hM hK H locs ls hS hR hl
      · refine lv_tableIn (tgt := 177) hx hb dL_law_32 (by omega) (by omega) (by rw [ht]; rfl) (by decide) ?_
        exact lc_1 hX hi hI hM hK H locs ls hS hR hl
      · refine lv_tableIn (tgt := 220) hx hb dL_law_32 (by omega) (by omega) (by rw [ht]; rfl) (by decide) ?_
        exact lc_2 hX hi hI hM hK H locs ls hS hR hl
      · refine lv_tableIn (tgt := 273) hx hb dL_law_32 (by omega) (by omega) (by rw [ht]; rfl) (by decide) ?_
        exact lc_3 hX hi hI hM hK H locs ls hS hR hl
      · refine lv_tableIn (tgt := 306) hx hb dL_law_32 (by omega) (by omega) (by rw [ht]; rfl) (by decide) ?_
        exact lc_4 hX hi hI hM hK H locs ls hS hR hl
      · refine lv_tableIn (tgt := 329) hx hb dL_law_32 (by omega) (by omega) (by rw [ht]; rfl) (by decide) ?_
        exact lc_5 hX hi hI hM hK H locs ls hS hR hl
      · refine lv_tableIn (tgt := 342) hx hb dL_law_32 (by omega) (by omega) (by rw [ht]; rfl) (by decide) ?_
        exact lc_6 hX hi hI hM hK H locs ls hS hR hl
      · refine lv_tableIn (tgt := 365) hx hb dL_law_32 (by omega) (by omega) (by rw [ht]; rfl) (by decide) ?_
        exact lc_7 hX hi hI hM hK H locs ls hS hR hl
      · refine lv_tableIn (tgt := 388) hx hb dL_law_32 (by omega) (by omega) (by rw [ht]; rfl) (by decide) ?_
        exact lc_8 hX hi hI hM hK H locs ls hS hR hl
      · refine lv_tableIn (tgt := 411) hx hb dL_law_32 (by omega) (by omega) (by rw [ht]; rfl) (by decide) ?_
        exact lc_9 hX hi hI hM hK H locs ls hS hR hl
      · refine lv_tableIn (tgt := 444) hx hb dL_law_32 (by omega) (by omega) (by rw [ht]; rfl) (by decide) ?_
        exact lc_10 hX hi hI hM hK H locs ls hS hR hl
      · refine lv_tableIn (tgt := 467) hx hb dL_law_32 (by omega) (by omega) (by rw [ht]; rfl) (by decide) ?_
        exact lc_11 hX hi hI hM hK H locs ls hS hR hl
      · refine lv_tableIn (tgt := 520) hx hb dL_law_32 (by omega) (by omega) (by rw [ht]; rfl) (by decide) ?_
        exact lc_12 hX hi hI hM hK H locs ls hS hR hl
      · refine lv_tableIn (tgt := 553) hx hb dL_law_32 (by omega) (by omega) (by rw [ht]; rfl) (by decide) ?_
        exact lc_13 hX hi hI hM hK H locs ls hS hR hl
      · refine lv_tableIn (tgt := 576) hx hb dL_law_32 (by omega) (by omega) (by rw [ht]; rfl) (by decide) ?_
        exact lc_14 hX hi hI hM hK H locs ls hS hR hl
      · refine lv_tableIn (tgt := 609) hx hb dL_law_32 (by omega) (by omega) (by rw [ht]; rfl) (by decide) ?_
        exact lc_15 hX hi hI hM hK H locs ls hS hR hl
      · refine lv_tableIn (tgt := 652) hx hb dL_law_32 (by omega) (by omega) (by rw [ht]; rfl) (by decide) ?_
        exact lc_16 hX hi hI hM hK H locs ls hS hR hl
      · refine lv_tableIn (tgt := 685) hx hb dL_law_32 (by omega) (by omega) (by rw [ht]; rfl) (by decide) ?_
        exact lc_17 hX hi hI hM hK H locs ls hS hR hl
      · refine lv_tableIn (tgt := 708) hx hb dL_law_32 (by omega) (by omega) (by rw [ht]; rfl) (by decide) ?_
        exact lc_18 hX hi hI hM hK H locs ls hS hR hl
      · refine lv_tableIn (tgt := 751) hx hb dL_law_32 (by omega) (by omega) (by rw [ht]; rfl) (by decide) ?_
        exact lc_19 hX hi hI hM hK H locs ls hS hR hl
      · refine lv_tableIn (tgt := 794) hx hb dL_law_32 (by omega) (by omega) (by rw [ht]; rfl) (by decide) ?_
        exact lc_20 hX hi hI hM hK H locs ls hS hR hl
      · refine lv_tableIn (tgt := 827) hx hb dL_law_32 (by omega) (by omega) (by rw [ht]; rfl) (by decide) ?_
        exact lc_21 hX hi hI hM hK H locs ls hS hR hl
      · refine lv_tableIn (tgt := 860) hx hb dL_law_32 (by omega) (by omega) (by rw [ht]; rfl) (by decide) ?_
        exact lc_22 hX hi hI hM hK H locs ls hS hR hl
      · refine lv_tableIn (tgt := 893) hx hb dL_law_32 (by omega) (by omega) (by rw [ht]; rfl) (by decide) ?_
        exact lc_23 hX hi hI hM hK H locs ls hS hR hl
      · refine lv_tableOut (tgt := 906) hx hb dL_law_32 ht (by decide) ?_
        exact hK a I R π sg hI hM H locs ls hS hR hl
end LWO
