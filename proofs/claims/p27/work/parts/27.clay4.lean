/-! the lines: fill, layOut, and the calls that tell how many -/
def yOf (a : AS) (p : Int) : YV := a.1.2.1 (a.1.2.2 p.toNat).1.toNat
def lyA (a : AS) (p W : Int) : LSt := layS W a.1.1.2.1 (yOf a p) (a.1.2.2 p.toNat)
def aLines (a : AS) (p : Int) : Int := if 0 ≤ p ∧ p ≤ a.1.1.2.2 - 1 then (lyA a p a.1.1.1).1 + 1 else -1
def aLinesWith (a : AS) (p c : Int) : Int := if (0 ≤ p ∧ p ≤ a.1.1.2.2 - 1) ∧ (20 ≤ c ∧ c ≤ 80) then (lyA a p c).1 + 1 else -1
def lcG (a : AS) (p m : Int) : Nat → Int → Int
  | 0, _ => -9
  | n + 1, c => if (lyA a p c).1 + 1 ≤ m then c else lcG a p m n (c + 1)
def aLeast (a : AS) (p m : Int) : Int := if (0 ≤ p ∧ p ≤ a.1.1.2.2 - 1) ∧ (1 ≤ m ∧ m ≤ 99) then lcG a p m 61 20 else -1
def aField (a : AS) (p f w : Int) : Int := if (0 ≤ p ∧ p ≤ a.1.1.2.2 - 1) ∧ 0 ≤ f ∧ (0 ≤ w ∧ w ≤ 5) then (if f < (wdT (a.1.2.2 p.toNat)).2.2.1 then (lyA a p a.1.1.1).2.2.2.2 f w else -9) else -1
def lnG (a : AS) : Nat → Int
  | 0 => 0
  | n + 1 => lnG a n + ((lyA a n a.1.1.1).1 + 1)
def aCount (a : AS) (w : Int) : Int := if w = 0 then a.1.1.1 else if w = 1 then a.1.1.2.1 else if w = 2 then a.1.1.2.2 else if w = 3 then lnG a a.1.1.2.2.toNat else if w = 4 then (a.2.2.2.1 : Int) else if w = 5 then (a.2.1 : Int) else -1
theorem LC.kept8 {I I1 : Mem} {W D H : Int} {T : TW} (h : LC I W D H T) (hk : ∀ (x : Nat) (j : Int), ¬ (x = 34 ∧ 6 ≤ j) → I1 x j = I x j) : LC I1 W D H T := ⟨(hk _ _ (by omega)).trans h.1, (hk _ _ (by omega)).trans h.2.1, (hk _ _ (by omega)).trans h.2.2.1, h.2.2.2.kept fun x j a b => hk x j (by omega)⟩
set_option maxHeartbeats 4000000 in
set_option maxRecDepth 100000 in
theorem c_fill (I : Mem) (R : RMem) (hRO : RefOk R) (W D : Int) (hWr : 20 ≤ W ∧ W ≤ 80) (hD : 2 ≤ D ∧ D ≤ 20) {a a1 : Nat} (hs : ParAt R a a1) (hap : a ≤ 33 ∧ a1 ≤ 33) (v : YV) (hv : WfP v) (hP : AtP I a a1 v) {b b1 : Nat} (hb : StyAt R b b1) (hbp : b ≤ 33 ∧ b1 ≤ 33) (y : YV) (hy : WfY y) (hY : AtY I b b1 y) : CC 5 0 0 yX0_fill cX0_fill 6 none [.inr (some 34), .inr (some (a)), .inr (some (b)), .inl (W), .inl (D)] (290, ShF, I, R) (PW R (fun I1 => LI I1 (layS W D y v) (wdT v).2.2.1 ∧ TA (wdT v) I1 ∧ I1 34 3 = W ∧ ∀ (x : Nat) (j : Int), ¬ (34 ≤ x ∧ x ≤ 127) → I1 x j = I x j)) := by
  obtain ⟨hnf, fs, hO⟩ := (wdT_ok hv).fs
  have hlast := wdT_last v
  have hl := hv.2.1
  have hyH := hy.2.1
  have hyF := hy.1
  have hnw := (hO.2.2 ((wdT v).2.2.1 - 1) (by omega) (by omega)).2.2.2.2.1
  have hlay : layS W D y v = sFs W D y.2.1 y.2.2 (wdT v) (wdT v).2.2.1.toNat (S0 y.1) := rfl
  rw [hlay]
  generalize hTw : wdT v = T at hnf hO hlast hnw ⊢
  have hinv := sFs_inv (W := W) (D := D) (H := y.2.1) (g := y.2.2) (c0 := y.1) ⟨hyH.1, by omega⟩ hD hy.2.2.1 ⟨hyF.1, by omega⟩ hO
  have hloop : ∀ (n : Nat) (i : Int) (I1 : Mem), 81 < i + n → (0 ≤ i ∧ i ≤ T.2.2.1) → LI I1 (sFs W D y.2.1 y.2.2 T i.toNat (S0 y.1)) i → LC I1 W D y.2.1 T → (∀ (x : Nat) (j : Int), ¬ (34 ≤ x ∧ x ≤ 127) → I1 x j = I x j) → WW cX0_fill RX0 6 none false 5 0 0 (PW R (fun I1 => LI I1 (sFs W D y.2.1 y.2.2 T T.2.2.1.toNat (S0 y.1)) T.2.2.1 ∧ TA T I1 ∧ I1 34 3 = W ∧ ∀ (x : Nat) (j : Int), ¬ (34 ≤ x ∧ x ≤ 127) → I1 x j = I x j)) 0 0 50 [some (.inr (some 34)), some (.inr (some (a))), some (.inr (some (b))), some (.inl (W)), some (.inl (D)), some (.inl (i))] [] (290, ShF, I1, R) := by
    intro n
    induction n with
    | zero => intros; exfalso; omega
    | succ n ih =>
      intro i I1 g1 g2 g3 g4 g5
      refine r_iload dX0_fill_50 rfl ?_
      refine r_aload_n dX0_fill_52 rfl ?_
      refine q_getR fl_X0_12 dX0_fill_53 sf_34 (ro_34_0 hRO) ?_
      refine q_getI fl_X0_59 dX0_fill_56 sf_35 ?_
      rw [g4.2.2.2.2.1]
      refine r_icmpge (tgt := 126) dX0_fill_59 (by decide) (by omega) (by omega) (fun h59 => ?_) (fun h59 => ?_)
      · refine q_vretW dX0_fill_126 rfl ?_
        have hi : i = T.2.2.1 := by omega
        rw [hi] at g3
        exact ⟨g3, g4.2.2.2, g4.1, g5⟩
      · refine r_iload dX0_fill_62 rfl ?_
        refine r_bipush dX0_fill_64 (by decide) ?_
        refine r_icmpge (tgt := 126) dX0_fill_66 (by decide) (by omega) (by omega) (fun h66 => ?_) (fun h66 => ?_)
        · refine q_vretW dX0_fill_126 rfl ?_
          have hi : i = T.2.2.1 := by omega
          rw [hi] at g3
          exact ⟨g3, g4.2.2.2, g4.1, g5⟩
        · refine r_aload_n dX0_fill_69 rfl ?_
          refine r_iload dX0_fill_70 rfl ?_
          refine q_putI fl_X0_62 dX0_fill_72 sf_34 ?_
          have hf := hO.fp (f := i) (by omega) (by omega)
          have hfd := hO.2.2 i (by omega) (by omega)
          have hbd := hf.1.bd
          have hab := hf.1.1
          have hin := hinv i.toNat (by omega)
          have hic : ((i.toNat : Nat) : Int) = i := by omega
          have hC2 : LC (u2 I1 34 8 i) W D y.2.1 T := g4.kept8 (fun x j h => u2_n (by omega))
          have hL2 : LI (u2 I1 34 8 i) (sFs W D y.2.1 y.2.2 T i.toNat (S0 y.1)) i := g3.kept (fun x j p q r => u2_n (by omega)) (by omega)
          have h38 : u2 I1 34 8 i 34 8 = ((i.toNat : Nat) : Int) := by rw [u2_s]; omega
          have hTA2 := hC2.2.2.2
          have hst : sFs W D y.2.1 y.2.2 T (i + 1).toNat (S0 y.1) = sFd W D y.2.1 y.2.2 T i (sFs W D y.2.1 y.2.2 T i.toNat (S0 y.1)) := by
            rw [show (i + 1).toNat = i.toNat + 1 by omega]
            show sFd W D y.2.1 y.2.2 T ((i.toNat : Nat) : Int) _ = _
            rw [hic]
          have hkk : ∀ (x : Nat) (j : Int), ¬ (34 ≤ x ∧ x ≤ 127) → u2 I1 34 8 i x j = I x j := fun x j h => by rw [u2_n (by omega)]; exact g5 x j h
          generalize u2 I1 34 8 i = I2 at hC2 hL2 h38 hTA2 hkk ⊢
          refine r_iload dX0_fill_75 rfl ?_
          refine r_ifne (tgt := 115) dX0_fill_77 (by decide) (by omega) (fun h77 => ?_) (fun h77 => ?_)
          · refine r_aload_n dX0_fill_115 rfl ?_
            refine r_aload_n dX0_fill_116 rfl ?_
            have h0 : i ≠ 0 := by omega
            have hL2c : LI I2 (sFs W D y.2.1 y.2.2 T i.toNat (S0 y.1)) ((i.toNat : Nat) : Int) := by rw [hic]; exact hL2
            have hin1 : Inv W (sFs W D y.2.1 y.2.2 T i.toNat (S0 y.1)) (fs i - 1) (fs i - 1) := by
              rcases hin with h | h
              · omega
              · rw [hic] at h; exact h.2
            refine q_callVW lk_X0_80 dX0_fill_117 (c_fillBehindTab I2 R hRO hC2 hWr ⟨hyH.1, by omega⟩ i.toNat h38 (by omega) hL2c hD hb hbp y hy ⟨(hkk _ _ (by omega)).trans hY.1, (hkk _ _ (by omega)).trans hY.2.1, fun p q1 q2 => (hkk _ _ (by omega)).trans (hY.2.2 p q1 q2)⟩ (by omega) (by omega) (by rw [hic]; omega) (ch := v.2.2) (fr := fs i) (to := fs (i + 1) - 1) (by omega) (by rw [hic]; exact hf) hin1 (by omega)) (by decide) sf_34 rfl rfl (Nat.le_of_ble_eq_true rfl) (by decide) (fun I4 hI4 => ?_)
            refine r_iinc dX0_fill_120 rfl (by decide) ?_
            dsimp only [lset]
            refine r_goto (tgt := 50) dX0_fill_123 (by decide) ?_
            first
              | (refine ih (i + 1) I4 (by omega) (by omega) ?_ (hC3.kept hI4.2) (fun x j h => by rw [hI4.2 x j (by omega) (by omega) (by omega), hk3 x j (by omega) (by omega) (by omega)]; exact hkk x j h)
                 rw [hst]
                 unfold sFd
                 rw [if_pos h0, hff]
                 have h9 := hI4.1
                 rw [hic, Int.sub_zero] at h9
                 rw [Int.sub_zero]
                 exact h9)
              | (refine ih (i + 1) I4 (by omega) (by omega) ?_ (hC2.keptM hI4.2) (fun x j h => by rw [hI4.2 x j (by omega) (by omega) (by omega)]; exact hkk x j h)
                 rw [hst]
                 unfold sFd
                 rw [if_neg h0]
                 have h9 := hI4.1
                 rw [hic] at h9
                 exact h9)
          · refine r_aload_n dX0_fill_80 rfl ?_
            refine r_bipush dX0_fill_81 (by decide) ?_
            refine r_bipush dX0_fill_83 (by decide) ?_
            refine r_bipush dX0_fill_85 (by decide) ?_
            have h0 : i = 0 := by omega
            have hin0 : (sFs W D y.2.1 y.2.2 T i.toNat (S0 y.1)) = S0 y.1 := by
              rcases hin with h | h
              · exact h.2
              · omega
            have hL2c : LI I2 (sFs W D y.2.1 y.2.2 T i.toNat (S0 y.1)) ((i.toNat : Nat) : Int) := by rw [hic]; exact hL2
            refine q_callVW lk_X0_65 dX0_fill_87 (c_startField I2 R hRO i.toNat h38 (by omega) (-9) (-9) (-9)) (by decide) sf_34 rfl rfl (Nat.le_of_ble_eq_true rfl) (by decide) (fun I3 hI3 => ?_)
            subst hI3
            have hL3 := hL2c.beg (p := -9) (kd := -9) (m := -9)
            have hk3 : LK (bgI I2 i.toNat (-9) (-9) (-9)) I2 := fun x j p q r => bgI_n (by omega)
            generalize bgI I2 i.toNat (-9) (-9) (-9) = I3 at hL3 hk3 ⊢
            have hC3 := hC2.kept hk3
            have hTA3 := hC3.2.2.2
            rw [hic] at hL3
            refine r_aload_n dX0_fill_90 rfl ?_
            refine r_aload_n dX0_fill_91 rfl ?_
            refine q_getR fl_X0_12 dX0_fill_92 sf_34 (ro_34_0 hRO) ?_
            refine r_iload dX0_fill_95 rfl ?_
            refine q_callVF lk_X0_69 dX0_fill_97 (c_firstOf I3 R hRO i (by omega)) (by decide) sf_35 rfl rfl (Nat.le_of_ble_eq_true rfl) (by decide) ?_
            rw [if_neg (show ¬ (1 ≤ i ∧ i ≤ 81) by omega)]
            refine r_aload_n dX0_fill_100 rfl ?_
            refine q_getR fl_X0_12 dX0_fill_101 sf_34 (ro_34_0 hRO) ?_
            refine r_iload dX0_fill_104 rfl ?_
            refine q_callVF lk_X0_73 dX0_fill_106 (c_endOf I3 R hRO i (by omega)) (by decide) sf_35 rfl rfl (Nat.le_of_ble_eq_true rfl) (by decide) ?_
            rw [if_pos (show 0 ≤ i ∧ i < 81 by omega), hTA3.2.2.2 i (by omega) (by omega)]
            have hff : (fF T.2.2.2.2.2.2 i) = 0 := if_pos h0
            have hz : fs i = 0 := by rw [h0]; exact hO.1
            have hSr : (sFs W D y.2.1 y.2.2 T i.toNat (S0 y.1)).1 = 0 := by rw [hin0]; rfl
            have hi3 : Inv W (sBeg i (sFs W D y.2.1 y.2.2 T i.toNat (S0 y.1)) (-9) (-9) (-9)) 0 0 := by
              rw [hin0]
              exact ⟨⟨Int.le_refl 0, Int.le_refl 0⟩, ⟨hyF.1, by show y.1 ≤ W; omega⟩, ⟨Int.le_refl 0, Int.le_refl 0⟩, fun i i1 i2 => by have i2 : i < 0 := i2; omega, fun i j i1 ij j2 => by have j2 : j < 0 := j2; omega⟩
            have hwk := hf.1.2.2.2
            have hgp := hf.1.2.2.1.1
            rw [hff] at hwk hgp
            have hc9 : (sBeg i (sFs W D y.2.1 y.2.2 T i.toNat (S0 y.1)) (-9) (-9) (-9)).2.1 = y.1 := by rw [hin0]; rfl
            have hF9 := sBeg_F0 i (sFs W D y.2.1 y.2.2 T i.toNat (S0 y.1)) (-9) (-9) (-9)
            refine q_callVW lk_X0_76 dX0_fill_109 (c_flow I3 R hRO hC3 hWr ⟨hyH.1, by omega⟩ i.toNat ((hk3 _ _ (by omega) (by omega) (by omega)).trans h38) (by omega) (k := i + 1) (by omega) hL3 0 (T.2.2.2.2.2.2 i) (by omega) (to := fs (i + 1) - 1) (by omega) hwk (k0 := 0) hi3 (by omega) (fun q => ⟨by have := (hgp q).1; omega, by rw [hc9]; omega⟩) (by rw [hic, hF9, hSr]; omega)) (by decide) sf_34 rfl rfl (Nat.le_of_ble_eq_true rfl) (by decide) (fun I4 hI4 => ?_)
            refine r_goto (tgt := 120) dX0_fill_112 (by decide) ?_
            refine r_iinc dX0_fill_120 rfl (by decide) ?_
            dsimp only [lset]
            refine r_goto (tgt := 50) dX0_fill_123 (by decide) ?_
            first
              | (refine ih (i + 1) I4 (by omega) (by omega) ?_ (hC3.kept hI4.2) (fun x j h => by rw [hI4.2 x j (by omega) (by omega) (by omega), hk3 x j (by omega) (by omega) (by omega)]; exact hkk x j h)
                 rw [hst]
                 unfold sFd
                 rw [if_pos h0, hff]
                 have h9 := hI4.1
                 rw [hic, Int.sub_zero] at h9
                 rw [Int.sub_zero]
                 exact h9)
              | (refine ih (i + 1) I4 (by omega) (by omega) ?_ (hC2.keptM hI4.2) (fun x j h => by rw [hI4.2 x j (by omega) (by omega) (by omega)]; exact hkk x j h)
                 rw [hst]
                 unfold sFd
                 rw [if_neg h0]
                 have h9 := hI4.1
                 rw [hic] at h9
                 exact h9)
  refine CC_of (own := RX0) (ini := false) (by decide +kernel) rfl (fun h => absurd h (by decide)) (Nat.le_of_ble_eq_true rfl) ?_
  show WW cX0_fill RX0 6 none false 5 0 0 (PW R (fun I1 => LI I1 (sFs W D y.2.1 y.2.2 T T.2.2.1.toNat (S0 y.1)) T.2.2.1 ∧ TA T I1 ∧ I1 34 3 = W ∧ ∀ (x : Nat) (j : Int), ¬ (34 ≤ x ∧ x ≤ 127) → I1 x j = I x j)) 0 0 0 [some (.inr (some 34)), some (.inr (some (a))), some (.inr (some (b))), some (.inl (W)), some (.inl (D)), none] [] (290, ShF, I, R)
  refine r_aload_n dX0_fill_0 rfl ?_
  refine q_getR fl_X0_12 dX0_fill_1 sf_34 (ro_34_0 hRO) ?_
  refine r_aload_n dX0_fill_4 rfl ?_
  refine q_callVW lk_X0_34 dX0_fill_5 (c_take I R hRO hs ⟨by omega, by omega⟩ v hv hP) (by decide) sf_35 rfl rfl (Nat.le_of_ble_eq_true rfl) (by decide) (fun I2 hI2 => ?_)
  rw [hTw] at hI2
  obtain ⟨hTA, hk2⟩ := hI2
  refine r_aload_n dX0_fill_8 rfl ?_
  refine q_getR fl_X0_21 dX0_fill_9 sf_34 (ro_34_1 hRO) ?_
  refine q_callVW lk_X0_38 dX0_fill_12 (c_removeAll I2 R hRO) (by decide) sf_40 rfl rfl (Nat.le_of_ble_eq_true rfl) (by decide) (fun I3 hI3 => ?_)
  subst hI3
  refine r_aload_n dX0_fill_15 rfl ?_
  refine r_iload_n dX0_fill_16 rfl ?_
  refine q_putI fl_X0_41 dX0_fill_17 sf_34 ?_
  refine r_aload_n dX0_fill_20 rfl ?_
  refine r_iload dX0_fill_21 rfl ?_
  refine q_putI fl_X0_44 dX0_fill_23 sf_34 ?_
  refine r_aload_n dX0_fill_26 rfl ?_
  refine r_aload_n dX0_fill_27 rfl ?_
  refine q_getI fl_X0_47 dX0_fill_28 hb.1 ?_
  have hr1 : u2 (u2 (u2 I2 40 0 0) 34 3 W) 34 4 D b 1 = y.2.1 := by rw [u2_n (by omega), u2_n (by omega), u2_n (by omega), hk2 _ _ (by omega)]; exact hY.2.1
  rw [hr1]
  refine q_putI fl_X0_52 dX0_fill_31 sf_34 ?_
  refine r_aload_n dX0_fill_34 rfl ?_
  refine r_iconst dX0_fill_35 ?_
  refine q_putI fl_X0_30 dX0_fill_36 sf_34 ?_
  refine r_aload_n dX0_fill_39 rfl ?_
  refine r_aload_n dX0_fill_40 rfl ?_
  refine q_getI fl_X0_53 dX0_fill_41 hb.1 ?_
  have hr0 : u2 (u2 (u2 (u2 (u2 I2 40 0 0) 34 3 W) 34 4 D) 34 5 y.2.1) 34 6 0 b 0 = y.1 := by rw [u2_n (by omega), u2_n (by omega), u2_n (by omega), u2_n (by omega), u2_n (by omega), hk2 _ _ (by omega)]; exact hY.1
  rw [hr0]
  refine q_putI fl_X0_56 dX0_fill_44 sf_34 ?_
  refine r_iconst dX0_fill_47 ?_
  refine r_istore dX0_fill_48 (by decide) ?_
  dsimp only [lset]
  refine hloop 82 0 _ (by omega) (by omega) ?_ ?_ (fun x j h => by rw [u2_n (by omega), u2_n (by omega), u2_n (by omega), u2_n (by omega), u2_n (by omega), u2_n (by omega)]; exact hk2 x j (by omega))
  · refine ⟨by rw [u2_n (Or.inr (by decide)), u2_s]; rfl, u2_s, by rw [u2_n (Or.inl (by decide)), u2_n (Or.inl (by decide)), u2_n (Or.inl (by decide)), u2_n (Or.inl (by decide)), u2_n (Or.inl (by decide)), u2_s]; rfl, fun i i1 i2 => by have i2 : i < 0 := i2; omega, fun q w q1 _ _ => by omega⟩
  · refine ⟨by rw [u2_n (Or.inr (by decide)), u2_n (Or.inr (by decide)), u2_n (Or.inr (by decide)), u2_n (Or.inr (by decide)), u2_s], by rw [u2_n (Or.inr (by decide)), u2_n (Or.inr (by decide)), u2_n (Or.inr (by decide)), u2_s], by rw [u2_n (Or.inr (by decide)), u2_n (Or.inr (by decide)), u2_s], hTA.kept (fun x j p q => by rw [u2_n (by omega), u2_n (by omega), u2_n (by omega), u2_n (by omega), u2_n (by omega), u2_n (by omega)])⟩
