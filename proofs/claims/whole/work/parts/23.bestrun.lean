theorem c_lt0 (D : va_G) (cI cJ : ClassId) (l : Launch) (y z : Int) (a b : Nat) (hy : y = (a : Int)) (hz : z = (b : Int)) (hq : a ≤ 281474976710656 ∧ b ≤ 281474976710656 ∧ 0 < b) : RD D cI cJ l yX3_leastTerms cX3_leastTerms 9 (some .long) 1 30 [.long (zj y), .long (zj z), .int (zi 0)] [] (.long (zj (rdU a b : Int))) := by
  have h := c_X3_leastTerms D cI cJ l y z 0 a b hy hz hq (by omega)
  rw [if_pos rfl] at h
  exact h

theorem c_lt1 (D : va_G) (cI cJ : ClassId) (l : Launch) (y z : Int) (a b : Nat) (hy : y = (a : Int)) (hz : z = (b : Int)) (hq : a ≤ 281474976710656 ∧ b ≤ 281474976710656 ∧ 0 < b) : RD D cI cJ l yX3_leastTerms cX3_leastTerms 9 (some .long) 1 30 [.long (zj y), .long (zj z), .int (zi 1)] [] (.long (zj (rdL a b : Int))) := by
  have h := c_X3_leastTerms D cI cJ l y z 1 a b hy hz hq (by omega)
  rw [if_neg (by decide)] at h
  exact h

set_option maxHeartbeats 4000000 in
set_option maxRecDepth 100000 in
theorem c_X0_bestRunIn (D : va_G) (cI cJ : ClassId) (l : Launch) (ad : Nat → Nat) (n : Int) (st hr ca : Nat → Int) (pcs : Int) (fr lv : Nat → Int) (k : Int) (ts th sp hv : Nat → Int) (pr hc : Int) (F R : Nat → Nat) (hs : STd F R) (i : Nat) (φ : Nat → Nat) (hE : LE F R i φ fr lv) (hp : pcs = (i : Int) + 1) (y q : Int) (h : Nat) (hy : y = (h : Int)) (hh : 1 ≤ h ∧ h ≤ 500) (hq : 0 ≤ q ∧ q ≤ 100) : RD D cI cJ l yX0_bestRunIn cX0_bestRunIn 15 (some .int) 2 58 [.ref (ad 2), .int (zi (y)), .int (zi (q))] (wX ad cI cJ n st hr ca pcs fr lv k ts th sp hv pr hc) (.int (zi ((bestF F R h q h : Int)))) := by
  subst hy
  refine RD.of (by decide) (Nat.le_of_ble_eq_true rfl) ?_
  intro p e s m args below meth c hx hb hrt hml hown hT hlk hK hP ls hl
  replace hl : lv_has ls 15 [(0, .ref (ad 2)), (1, .int (zi ((h : Int)))), (2, .int (zi (q)))] := hl
  obtain ⟨hi12, hφ0, hφi, hφm, hφz, hφe, hfr0, hlv0⟩ := id hE
  have hfr : ∀ j : Nat, j ≤ i → fr j = (φ j : Int) ∧ φ j ≤ 500 := fun j hj => ⟨(hfr0 j hj).1, by have := (hfr0 j hj).2; omega⟩
  have hlv : ∀ j : Nat, j ≤ i → lv j = (lev F R (φ j) : Int) ∧ lev F R (φ j) ≤ 479001600 := fun j hj => ⟨hlv0 j hj, lev_rng hs (hfr j hj).2⟩
  have loop : ∀ u : Nat, u ≤ (i + 1) → ∀ (z3 z4 z6 z8 : Int), (z8 = (u : Int)) → (BI F R h q φ u z3 z4 z6) → ∀ ls : Array Slot, lv_has ls 15 [(0, .ref (ad 2)), (1, .int (zi ((h : Int)))), (2, .int (zi (q))), (3, .int (zi (z3))), (4, .long (zj (z4))), (6, .long (zj (z6))), (8, .int (zi (z8)))] → W p l e (RM 2 58) s m args below meth c s.heap [] 0 0 (MQ below (QR (.int (zi ((bestF F R h q h : Int)))) s.heap) args s 0 0 (fun _ => False)) (F0 m 11 ls []) := by
    refine lp_up (fun u => ∀ (z3 z4 z6 z8 : Int), (z8 = (u : Int)) → (BI F R h q φ u z3 z4 z6) → ∀ ls : Array Slot, lv_has ls 15 [(0, .ref (ad 2)), (1, .int (zi ((h : Int)))), (2, .int (zi (q))), (3, .int (zi (z3))), (4, .long (zj (z4))), (6, .long (zj (z6))), (8, .int (zi (z8)))] → W p l e (RM 2 58) s m args below meth c s.heap [] 0 0 (MQ below (QR (.int (zi ((bestF F R h q h : Int)))) s.heap) args s 0 0 (fun _ => False)) (F0 m 11 ls [])) ((i + 1)) ?_ ?_
    · intro z3 z4 z6 z8 e8 e1 ls hl
      refine lv_iload (pc := 11) hx hb dX0_bestRunIn_11 (lv_at hl 6 rfl) ?_
      refine lv_aload_n (pc := 13) hx hb dX0_bestRunIn_13 rfl (lv_at hl 0 rfl) ?_
      refine va_get (D := D) (cl := vwCl) (ci := 0) (v := .int (zi (pcs))) (C := RX0) (T := TX0) (N := 3) (pc := 14) hx hb hT inT0 hown hK.1 hP 2 rfl rfl 2 (by decide) (hT _ tw_47) (fun _ h9 => h9) rfl dX0_bestRunIn_14 ?_
      refine z_icmp_ge (tgt := 146) (pc := 17) hx hb dX0_bestRunIn_17 (by decide) (by omega) (by omega) (fun c_1 => ?_) (fun c_1 => absurd c_1 (by omega))
      refine lv_iload_n (pc := 146) hx hb dX0_bestRunIn_146 rfl (lv_at hl 3 rfl) ?_
      exact rd_iret hx hb hrt hlk dX0_bestRunIn_147 (by rw [BI_end hs hE (by omega) hq e1 (by omega) (by first | (left; omega) | (right; left; omega) | (right; right; omega))])
    · intro u hu ih z3 z4 z6 z8 e8 e1 ls hl
      refine lv_iload (pc := 11) hx hb dX0_bestRunIn_11 (lv_at hl 6 rfl) ?_
      refine lv_aload_n (pc := 13) hx hb dX0_bestRunIn_13 rfl (lv_at hl 0 rfl) ?_
      refine va_get (D := D) (cl := vwCl) (ci := 0) (v := .int (zi (pcs))) (C := RX0) (T := TX0) (N := 3) (pc := 14) hx hb hT inT0 hown hK.1 hP 2 rfl rfl 2 (by decide) (hT _ tw_47) (fun _ h9 => h9) rfl dX0_bestRunIn_14 ?_
      refine z_icmp_ge (tgt := 146) (pc := 17) hx hb dX0_bestRunIn_17 (by decide) (by omega) (by omega) (fun c_2 => absurd c_2 (by omega)) (fun c_2 => ?_)
      refine lv_aload_n (pc := 20) hx hb dX0_bestRunIn_20 rfl (lv_at hl 0 rfl) ?_
      refine va_get (D := D) (cl := vwCl) (ci := 0) (v := .ref (ad 9)) (C := RX0) (T := TX0) (N := 3) (pc := 21) hx hb hT inT0 hown hK.1 hP 2 rfl rfl 0 (by decide) (hT _ tw_45) (fun _ h9 => h9) rfl dX0_bestRunIn_21 ?_
      refine lv_iload (pc := 24) hx hb dX0_bestRunIn_24 (lv_at hl 6 rfl) ?_
      refine z_iald (pc := 26) hx hb hK hP 9 (u) (f := fr) rfl (by omega) (by omega) (by omega) dX0_bestRunIn_26 ?_
      have r_3 := hfr (u) (by omega)
      refine lv_iload_n (pc := 27) hx hb dX0_bestRunIn_27 rfl (lv_at hl 1 rfl) ?_
      refine z_icmp_ge (tgt := 146) (pc := 28) hx hb dX0_bestRunIn_28 (by decide) (by omega) (by omega) (fun c_4 => ?_) (fun c_4 => ?_)
      · refine lv_iload_n (pc := 146) hx hb dX0_bestRunIn_146 rfl (lv_at hl 3 rfl) ?_
        exact rd_iret hx hb hrt hlk dX0_bestRunIn_147 (by rw [BI_end hs hE (by omega) hq e1 (by omega) (by first | (left; omega) | (right; left; omega) | (right; right; omega))])
      · refine lv_aload_n (pc := 31) hx hb dX0_bestRunIn_31 rfl (lv_at hl 0 rfl) ?_
        refine va_get (D := D) (cl := vwCl) (ci := 0) (v := .ref (ad 10)) (C := RX0) (T := TX0) (N := 3) (pc := 32) hx hb hT inT0 hown hK.1 hP 2 rfl rfl 1 (by decide) (hT _ tw_46) (fun _ h9 => h9) rfl dX0_bestRunIn_32 ?_
        refine lv_iload (pc := 35) hx hb dX0_bestRunIn_35 (lv_at hl 6 rfl) ?_
        refine z_lald (pc := 37) hx hb hK hP 10 (u) (f := lv) rfl (by omega) (by omega) (by omega) dX0_bestRunIn_37 ?_
        have r_5 := hlv (u) (by omega)
        refine z_lconst0 (pc := 38) hx hb dX0_bestRunIn_38 ?_
        refine z_lcmp_le (tgt := 146) (pc := 39) hx hb dX0_bestRunIn_39 dX0_bestRunIn_40 (by decide) (by omega) (by omega) (fun c_6 => ?_) (fun c_6 => ?_)
        · refine lv_iload_n (pc := 146) hx hb dX0_bestRunIn_146 rfl (lv_at hl 3 rfl) ?_
          exact rd_iret hx hb hrt hlk dX0_bestRunIn_147 (by rw [BI_end hs hE (by omega) hq e1 (by omega) (by first | (left; omega) | (right; left; omega) | (right; right; omega))])
        · have hfu := hfr u (by omega)
          have hlu := hlv u (by omega)
          have hl0 : 0 < lev F R (φ u) := by omega
          have hsl : sumL (lev F R) (φ u) (h - φ u) ≤ 479001600 * (h - φ u) := sumL_le (h - φ u) (fun x h1 h2 => lev_rng hs (by omega))
          have hkl := KL_rng hs (B := φ u) (h := h) (by omega) (by omega) hl0
          have hxu := XU_rng hs (B := φ u) (h := h) (cost := q) (by omega) (by omega) hq hl0
          have hmf := mul_rng (a := fr u) (b := q) (A := 500) (B := 100) (by omega) hq
          have exu : 100 * (KU F R h (φ u) : Int) - fr u * q * (KL F R h (φ u) : Int) = XU F R h q (φ u) := by unfold XU; rw [hfu.1]
          refine lv_aload_n (pc := 43) hx hb dX0_bestRunIn_43 rfl (lv_at hl 0 rfl) ?_
          refine lv_aload_n (pc := 44) hx hb dX0_bestRunIn_44 rfl (lv_at hl 0 rfl) ?_
          refine va_get (D := D) (cl := vwCl) (ci := 0) (v := .ref (ad 9)) (C := RX0) (T := TX0) (N := 3) (pc := 45) hx hb hT inT0 hown hK.1 hP 2 rfl rfl 0 (by decide) (hT _ tw_45) (fun _ h9 => h9) rfl dX0_bestRunIn_45 ?_
          refine lv_iload (pc := 48) hx hb dX0_bestRunIn_48 (lv_at hl 6 rfl) ?_
          refine z_iald (pc := 50) hx hb hK hP 9 (u) (f := fr) rfl (by omega) (by omega) (by omega) dX0_bestRunIn_50 ?_
          have r_7 := hfr (u) (by omega)
          refine lv_iload_n (pc := 51) hx hb dX0_bestRunIn_51 rfl (lv_at hl 1 rfl) ?_
          refine rd_V (pc := 52) hx hb hml hown hT hK (c_X0_sumOf D cI cJ l ad n st hr ca pcs fr lv k ts th sp hv pr hc F R hs i φ hE hp ((fr (u))) ((h : Int)) (φ u) h (by omega) (by omega) (by omega)) ca_X0_sumOf tw_239 hP 2 0 rfl rfl rfl ⟨Nat.le_of_ble_eq_true rfl, Nat.le_of_ble_eq_true rfl⟩ rfl hl.1 (As := [.int (zi ((fr (u)))), .int (zi ((h : Int)))]) (rest := []) rfl (Nat.le_of_ble_eq_true rfl) ⟨Nat.le_of_ble_eq_true rfl, Nat.le_of_ble_eq_true rfl⟩ dX0_bestRunIn_52 ?_
          refine lv_lstore (lv' := [(9, .long (zj ((sumL (lev F R) (φ u) (h - (φ u)) : Int)))), (0, .ref (ad 2)), (1, .int (zi ((h : Int)))), (2, .int (zi (q))), (3, .int (zi (z3))), (4, .long (zj (z4))), (6, .long (zj (z6))), (8, .int (zi (z8)))]) (pc := 55) hx hb dX0_bestRunIn_55 hl (by decide) rfl (fun ls hl => ?_)
          refine lv_lload (pc := 57) hx hb dX0_bestRunIn_57 (lv_at hl 0 rfl) ?_
          refine lv_aload_n (pc := 59) hx hb dX0_bestRunIn_59 rfl (lv_at hl 1 rfl) ?_
          refine va_get (D := D) (cl := vwCl) (ci := 0) (v := .ref (ad 10)) (C := RX0) (T := TX0) (N := 3) (pc := 60) hx hb hT inT0 hown hK.1 hP 2 rfl rfl 1 (by decide) (hT _ tw_46) (fun _ h9 => h9) rfl dX0_bestRunIn_60 ?_
          refine lv_iload (pc := 63) hx hb dX0_bestRunIn_63 (lv_at hl 7 rfl) ?_
          refine z_lald (pc := 65) hx hb hK hP 10 (u) (f := lv) rfl (by omega) (by omega) (by omega) dX0_bestRunIn_65 ?_
          have r_8 := hlv (u) (by omega)
          refine z_iconst (pc := 66) hx hb dX0_bestRunIn_66 ?_
          refine rd_SN (pc := 67) hx hb hml hown hT hK (c_lt1 D cI cJ l ((sumL (lev F R) (φ u) (h - (φ u)) : Int)) ((lv (u))) (sumL (lev F R) (φ u) (h - φ u)) (lev F R (φ u)) (by omega) (by omega) (by omega)) ca_X3_leastTerms hK.2.2.2.2.2 va_Pnil ⟨Nat.le_of_ble_eq_true rfl, Nat.le_of_ble_eq_true rfl⟩ rfl hl.1 (As := [.long (zj ((sumL (lev F R) (φ u) (h - (φ u)) : Int))), .long (zj ((lv (u)))), .int (zi (1))]) (rest := []) rfl (Nat.le_of_ble_eq_true rfl) ⟨Nat.le_of_ble_eq_true rfl, Nat.le_of_ble_eq_true rfl⟩ dX0_bestRunIn_67 ?_
          refine lv_lstore (lv' := [(11, .long (zj ((rdL (sumL (lev F R) (φ u) (h - φ u)) (lev F R (φ u)) : Int)))), (9, .long (zj ((sumL (lev F R) (φ u) (h - (φ u)) : Int)))), (0, .ref (ad 2)), (1, .int (zi ((h : Int)))), (2, .int (zi (q))), (3, .int (zi (z3))), (4, .long (zj (z4))), (6, .long (zj (z6))), (8, .int (zi (z8)))]) (pc := 70) hx hb dX0_bestRunIn_70 hl (by decide) rfl (fun ls hl => ?_)
          refine z_ldc2 (pc := 72) hx hb (100) hown (hT _ tw_241) (by decide) dX0_bestRunIn_72 ?_
          refine lv_lload (pc := 75) hx hb dX0_bestRunIn_75 (lv_at hl 1 rfl) ?_
          refine lv_aload_n (pc := 77) hx hb dX0_bestRunIn_77 rfl (lv_at hl 2 rfl) ?_
          refine va_get (D := D) (cl := vwCl) (ci := 0) (v := .ref (ad 10)) (C := RX0) (T := TX0) (N := 3) (pc := 78) hx hb hT inT0 hown hK.1 hP 2 rfl rfl 1 (by decide) (hT _ tw_46) (fun _ h9 => h9) rfl dX0_bestRunIn_78 ?_
          refine lv_iload (pc := 81) hx hb dX0_bestRunIn_81 (lv_at hl 8 rfl) ?_
          refine z_lald (pc := 83) hx hb hK hP 10 (u) (f := lv) rfl (by omega) (by omega) (by omega) dX0_bestRunIn_83 ?_
          have r_9 := hlv (u) (by omega)
          refine z_iconst (pc := 84) hx hb dX0_bestRunIn_84 ?_
          refine rd_SN (pc := 85) hx hb hml hown hT hK (c_lt0 D cI cJ l ((sumL (lev F R) (φ u) (h - (φ u)) : Int)) ((lv (u))) (sumL (lev F R) (φ u) (h - φ u)) (lev F R (φ u)) (by omega) (by omega) (by omega)) ca_X3_leastTerms hK.2.2.2.2.2 va_Pnil ⟨Nat.le_of_ble_eq_true rfl, Nat.le_of_ble_eq_true rfl⟩ rfl hl.1 (As := [.long (zj ((sumL (lev F R) (φ u) (h - (φ u)) : Int))), .long (zj ((lv (u)))), .int (zi (0))]) (rest := [.long (zj (100))]) rfl (Nat.le_of_ble_eq_true rfl) ⟨Nat.le_of_ble_eq_true rfl, Nat.le_of_ble_eq_true rfl⟩ dX0_bestRunIn_85 ?_
          refine z_lmul (pc := 88) hx hb dX0_bestRunIn_88 ?_
          refine lv_aload_n (pc := 89) hx hb dX0_bestRunIn_89 rfl (lv_at hl 2 rfl) ?_
          refine va_get (D := D) (cl := vwCl) (ci := 0) (v := .ref (ad 9)) (C := RX0) (T := TX0) (N := 3) (pc := 90) hx hb hT inT0 hown hK.1 hP 2 rfl rfl 0 (by decide) (hT _ tw_45) (fun _ h9 => h9) rfl dX0_bestRunIn_90 ?_
          refine lv_iload (pc := 93) hx hb dX0_bestRunIn_93 (lv_at hl 8 rfl) ?_
          refine z_iald (pc := 95) hx hb hK hP 9 (u) (f := fr) rfl (by omega) (by omega) (by omega) dX0_bestRunIn_95 ?_
          have r_10 := hfr (u) (by omega)
          refine lv_iload_n (pc := 96) hx hb dX0_bestRunIn_96 rfl (lv_at hl 4 rfl) ?_
          refine z_imul (pc := 97) hx hb dX0_bestRunIn_97 ?_
          refine z_i2l (pc := 98) hx hb (by omega) dX0_bestRunIn_98 ?_
          refine lv_lload (pc := 99) hx hb dX0_bestRunIn_99 (lv_at hl 0 rfl) ?_
          refine z_lmul (pc := 101) hx hb dX0_bestRunIn_101 ?_
          refine z_lsub (pc := 102) hx hb dX0_bestRunIn_102 ?_
          refine lv_lstore (lv' := [(13, .long (zj (((100 * (rdU (sumL (lev F R) (φ u) (h - φ u)) (lev F R (φ u)) : Int)) - (((fr (u)) * q) * (rdL (sumL (lev F R) (φ u) (h - φ u)) (lev F R (φ u)) : Int)))))), (11, .long (zj ((rdL (sumL (lev F R) (φ u) (h - φ u)) (lev F R (φ u)) : Int)))), (9, .long (zj ((sumL (lev F R) (φ u) (h - (φ u)) : Int)))), (0, .ref (ad 2)), (1, .int (zi ((h : Int)))), (2, .int (zi (q))), (3, .int (zi (z3))), (4, .long (zj (z4))), (6, .long (zj (z6))), (8, .int (zi (z8)))]) (pc := 103) hx hb dX0_bestRunIn_103 hl (by decide) rfl (fun ls hl => ?_)
          refine lv_iload (pc := 105) hx hb dX0_bestRunIn_105 (lv_at hl 9 rfl) ?_
          refine z_if_eq (tgt := 124) (pc := 107) hx hb dX0_bestRunIn_107 (by decide) (by omega) (fun c_11 => ?_) (fun c_11 => ?_)
          · have hset : BI F R h q φ (u + 1) (fr u) (100 * (KU F R h (φ u) : Int) - fr u * q * (KL F R h (φ u) : Int)) (KL F R h (φ u) : Int) := by
              rw [exu, hfu.1]
              exact BI_set hs hE (by omega) hq e1 (by omega) (by omega) hl0 (by first | (left; omega) | (right; rw [← exu]; simp only [KU, KL] at *; omega))
            refine lv_aload_n (pc := 124) hx hb dX0_bestRunIn_124 rfl (lv_at hl 3 rfl) ?_
            refine va_get (D := D) (cl := vwCl) (ci := 0) (v := .ref (ad 9)) (C := RX0) (T := TX0) (N := 3) (pc := 125) hx hb hT inT0 hown hK.1 hP 2 rfl rfl 0 (by decide) (hT _ tw_45) (fun _ h9 => h9) rfl dX0_bestRunIn_125 ?_
            refine lv_iload (pc := 128) hx hb dX0_bestRunIn_128 (lv_at hl 9 rfl) ?_
            refine z_iald (pc := 130) hx hb hK hP 9 (u) (f := fr) rfl (by omega) (by omega) (by omega) dX0_bestRunIn_130 ?_
            have r_12 := hfr (u) (by omega)
            refine lv_istore_n (lv' := [(3, .int (zi ((fr (u))))), (13, .long (zj (((100 * (rdU (sumL (lev F R) (φ u) (h - φ u)) (lev F R (φ u)) : Int)) - (((fr (u)) * q) * (rdL (sumL (lev F R) (φ u) (h - φ u)) (lev F R (φ u)) : Int)))))), (11, .long (zj ((rdL (sumL (lev F R) (φ u) (h - φ u)) (lev F R (φ u)) : Int)))), (9, .long (zj ((sumL (lev F R) (φ u) (h - (φ u)) : Int)))), (0, .ref (ad 2)), (1, .int (zi ((h : Int)))), (2, .int (zi (q))), (4, .long (zj (z4))), (6, .long (zj (z6))), (8, .int (zi (z8)))]) (pc := 131) hx hb dX0_bestRunIn_131 rfl hl (by decide) rfl (fun ls hl => ?_)
            refine lv_lload (pc := 132) hx hb dX0_bestRunIn_132 (lv_at hl 1 rfl) ?_
            refine lv_lstore (lv' := [(4, .long (zj (((100 * (rdU (sumL (lev F R) (φ u) (h - φ u)) (lev F R (φ u)) : Int)) - (((fr (u)) * q) * (rdL (sumL (lev F R) (φ u) (h - φ u)) (lev F R (φ u)) : Int)))))), (3, .int (zi ((fr (u))))), (13, .long (zj (((100 * (rdU (sumL (lev F R) (φ u) (h - φ u)) (lev F R (φ u)) : Int)) - (((fr (u)) * q) * (rdL (sumL (lev F R) (φ u) (h - φ u)) (lev F R (φ u)) : Int)))))), (11, .long (zj ((rdL (sumL (lev F R) (φ u) (h - φ u)) (lev F R (φ u)) : Int)))), (9, .long (zj ((sumL (lev F R) (φ u) (h - (φ u)) : Int)))), (0, .ref (ad 2)), (1, .int (zi ((h : Int)))), (2, .int (zi (q))), (6, .long (zj (z6))), (8, .int (zi (z8)))]) (pc := 134) hx hb dX0_bestRunIn_134 hl (by decide) rfl (fun ls hl => ?_)
            refine lv_lload (pc := 136) hx hb dX0_bestRunIn_136 (lv_at hl 3 rfl) ?_
            refine lv_lstore (lv' := [(6, .long (zj ((rdL (sumL (lev F R) (φ u) (h - φ u)) (lev F R (φ u)) : Int)))), (4, .long (zj (((100 * (rdU (sumL (lev F R) (φ u) (h - φ u)) (lev F R (φ u)) : Int)) - (((fr (u)) * q) * (rdL (sumL (lev F R) (φ u) (h - φ u)) (lev F R (φ u)) : Int)))))), (3, .int (zi ((fr (u))))), (13, .long (zj (((100 * (rdU (sumL (lev F R) (φ u) (h - φ u)) (lev F R (φ u)) : Int)) - (((fr (u)) * q) * (rdL (sumL (lev F R) (φ u) (h - φ u)) (lev F R (φ u)) : Int)))))), (11, .long (zj ((rdL (sumL (lev F R) (φ u) (h - φ u)) (lev F R (φ u)) : Int)))), (9, .long (zj ((sumL (lev F R) (φ u) (h - (φ u)) : Int)))), (0, .ref (ad 2)), (1, .int (zi ((h : Int)))), (2, .int (zi (q))), (8, .int (zi (z8)))]) (pc := 138) hx hb dX0_bestRunIn_138 hl (by decide) rfl (fun ls hl => ?_)
            refine lv_iinc (v := zi (z8 + 1)) (lv' := [(8, .int (zi ((z8 + 1)))), (6, .long (zj ((rdL (sumL (lev F R) (φ u) (h - φ u)) (lev F R (φ u)) : Int)))), (4, .long (zj (((100 * (rdU (sumL (lev F R) (φ u) (h - φ u)) (lev F R (φ u)) : Int)) - (((fr (u)) * q) * (rdL (sumL (lev F R) (φ u) (h - φ u)) (lev F R (φ u)) : Int)))))), (3, .int (zi ((fr (u))))), (13, .long (zj (((100 * (rdU (sumL (lev F R) (φ u) (h - φ u)) (lev F R (φ u)) : Int)) - (((fr (u)) * q) * (rdL (sumL (lev F R) (φ u) (h - φ u)) (lev F R (φ u)) : Int)))))), (11, .long (zj ((rdL (sumL (lev F R) (φ u) (h - φ u)) (lev F R (φ u)) : Int)))), (9, .long (zj ((sumL (lev F R) (φ u) (h - (φ u)) : Int)))), (0, .ref (ad 2)), (1, .int (zi ((h : Int)))), (2, .int (zi (q)))]) (pc := 140) hx hb dX0_bestRunIn_140 hl (k := 9) rfl (zi_add _ _) (by decide) rfl (fun ls hl => ?_)
            refine lv_goto (tgt := 11) (pc := 143) hx hb dX0_bestRunIn_143 (by decide) ?_
            exact ih  _ _ _ _ (by omega) (hset) ls (lv_sub hl [7, 8, 9, 3, 2, 1, 0] rfl)
          · have hbr := BI_rng hs (by omega) hq e1 (by omega)
            have hp1 := mul_rngS (a := XU F R h q (φ u)) (b := z6) (A := 29952000000) (B := 599040) hxu (by omega)
            have hp2 := mul_rngS (a := z4) (b := (KL F R h (φ u) : Int)) (A := 29952000000) (B := 599040) hbr.1 (by omega)
            rw [← exu] at hp1
            refine lv_lload (pc := 110) hx hb dX0_bestRunIn_110 (lv_at hl 0 rfl) ?_
            refine lv_lload (pc := 112) hx hb dX0_bestRunIn_112 (lv_at hl 8 rfl) ?_
            refine z_lmul (pc := 114) hx hb dX0_bestRunIn_114 ?_
            refine lv_lload (pc := 115) hx hb dX0_bestRunIn_115 (lv_at hl 7 rfl) ?_
            refine lv_lload (pc := 117) hx hb dX0_bestRunIn_117 (lv_at hl 1 rfl) ?_
            refine z_lmul (pc := 119) hx hb dX0_bestRunIn_119 ?_
            refine z_lcmp_le (tgt := 140) (pc := 120) hx hb dX0_bestRunIn_120 dX0_bestRunIn_121 (by decide) (by simp only [KU, KL] at *; omega) (by simp only [KU, KL] at *; omega) (fun c_13 => ?_) (fun c_13 => ?_)
            · have hkeep : BI F R h q φ (u + 1) z3 z4 z6 := BI_keep hs hE (by omega) hq e1 (by omega) (by omega) (by omega) hl0 (by rw [← exu]; simp only [KU, KL] at *; omega)
              refine lv_iinc (v := zi (z8 + 1)) (lv' := [(8, .int (zi ((z8 + 1)))), (13, .long (zj (((100 * (rdU (sumL (lev F R) (φ u) (h - φ u)) (lev F R (φ u)) : Int)) - (((fr (u)) * q) * (rdL (sumL (lev F R) (φ u) (h - φ u)) (lev F R (φ u)) : Int)))))), (11, .long (zj ((rdL (sumL (lev F R) (φ u) (h - φ u)) (lev F R (φ u)) : Int)))), (9, .long (zj ((sumL (lev F R) (φ u) (h - (φ u)) : Int)))), (0, .ref (ad 2)), (1, .int (zi ((h : Int)))), (2, .int (zi (q))), (3, .int (zi (z3))), (4, .long (zj (z4))), (6, .long (zj (z6)))]) (pc := 140) hx hb dX0_bestRunIn_140 hl (k := 9) rfl (zi_add _ _) (by decide) rfl (fun ls hl => ?_)
              refine lv_goto (tgt := 11) (pc := 143) hx hb dX0_bestRunIn_143 (by decide) ?_
              exact ih  _ _ _ _ (by omega) (hkeep) ls (lv_sub hl [4, 5, 6, 7, 8, 9, 0] rfl)
            · have hset : BI F R h q φ (u + 1) (fr u) (100 * (KU F R h (φ u) : Int) - fr u * q * (KL F R h (φ u) : Int)) (KL F R h (φ u) : Int) := by
                rw [exu, hfu.1]
                exact BI_set hs hE (by omega) hq e1 (by omega) (by omega) hl0 (by first | (left; omega) | (right; rw [← exu]; simp only [KU, KL] at *; omega))
              refine lv_aload_n (pc := 124) hx hb dX0_bestRunIn_124 rfl (lv_at hl 3 rfl) ?_
              refine va_get (D := D) (cl := vwCl) (ci := 0) (v := .ref (ad 9)) (C := RX0) (T := TX0) (N := 3) (pc := 125) hx hb hT inT0 hown hK.1 hP 2 rfl rfl 0 (by decide) (hT _ tw_45) (fun _ h9 => h9) rfl dX0_bestRunIn_125 ?_
              refine lv_iload (pc := 128) hx hb dX0_bestRunIn_128 (lv_at hl 9 rfl) ?_
              refine z_iald (pc := 130) hx hb hK hP 9 (u) (f := fr) rfl (by omega) (by omega) (by omega) dX0_bestRunIn_130 ?_
              have r_14 := hfr (u) (by omega)
              refine lv_istore_n (lv' := [(3, .int (zi ((fr (u))))), (13, .long (zj (((100 * (rdU (sumL (lev F R) (φ u) (h - φ u)) (lev F R (φ u)) : Int)) - (((fr (u)) * q) * (rdL (sumL (lev F R) (φ u) (h - φ u)) (lev F R (φ u)) : Int)))))), (11, .long (zj ((rdL (sumL (lev F R) (φ u) (h - φ u)) (lev F R (φ u)) : Int)))), (9, .long (zj ((sumL (lev F R) (φ u) (h - (φ u)) : Int)))), (0, .ref (ad 2)), (1, .int (zi ((h : Int)))), (2, .int (zi (q))), (4, .long (zj (z4))), (6, .long (zj (z6))), (8, .int (zi (z8)))]) (pc := 131) hx hb dX0_bestRunIn_131 rfl hl (by decide) rfl (fun ls hl => ?_)
              refine lv_lload (pc := 132) hx hb dX0_bestRunIn_132 (lv_at hl 1 rfl) ?_
              refine lv_lstore (lv' := [(4, .long (zj (((100 * (rdU (sumL (lev F R) (φ u) (h - φ u)) (lev F R (φ u)) : Int)) - (((fr (u)) * q) * (rdL (sumL (lev F R) (φ u) (h - φ u)) (lev F R (φ u)) : Int)))))), (3, .int (zi ((fr (u))))), (13, .long (zj (((100 * (rdU (sumL (lev F R) (φ u) (h - φ u)) (lev F R (φ u)) : Int)) - (((fr (u)) * q) * (rdL (sumL (lev F R) (φ u) (h - φ u)) (lev F R (φ u)) : Int)))))), (11, .long (zj ((rdL (sumL (lev F R) (φ u) (h - φ u)) (lev F R (φ u)) : Int)))), (9, .long (zj ((sumL (lev F R) (φ u) (h - (φ u)) : Int)))), (0, .ref (ad 2)), (1, .int (zi ((h : Int)))), (2, .int (zi (q))), (6, .long (zj (z6))), (8, .int (zi (z8)))]) (pc := 134) hx hb dX0_bestRunIn_134 hl (by decide) rfl (fun ls hl => ?_)
              refine lv_lload (pc := 136) hx hb dX0_bestRunIn_136 (lv_at hl 3 rfl) ?_
              refine lv_lstore (lv' := [(6, .long (zj ((rdL (sumL (lev F R) (φ u) (h - φ u)) (lev F R (φ u)) : Int)))), (4, .long (zj (((100 * (rdU (sumL (lev F R) (φ u) (h - φ u)) (lev F R (φ u)) : Int)) - (((fr (u)) * q) * (rdL (sumL (lev F R) (φ u) (h - φ u)) (lev F R (φ u)) : Int)))))), (3, .int (zi ((fr (u))))), (13, .long (zj (((100 * (rdU (sumL (lev F R) (φ u) (h - φ u)) (lev F R (φ u)) : Int)) - (((fr (u)) * q) * (rdL (sumL (lev F R) (φ u) (h - φ u)) (lev F R (φ u)) : Int)))))), (11, .long (zj ((rdL (sumL (lev F R) (φ u) (h - φ u)) (lev F R (φ u)) : Int)))), (9, .long (zj ((sumL (lev F R) (φ u) (h - (φ u)) : Int)))), (0, .ref (ad 2)), (1, .int (zi ((h : Int)))), (2, .int (zi (q))), (8, .int (zi (z8)))]) (pc := 138) hx hb dX0_bestRunIn_138 hl (by decide) rfl (fun ls hl => ?_)
              refine lv_iinc (v := zi (z8 + 1)) (lv' := [(8, .int (zi ((z8 + 1)))), (6, .long (zj ((rdL (sumL (lev F R) (φ u) (h - φ u)) (lev F R (φ u)) : Int)))), (4, .long (zj (((100 * (rdU (sumL (lev F R) (φ u) (h - φ u)) (lev F R (φ u)) : Int)) - (((fr (u)) * q) * (rdL (sumL (lev F R) (φ u) (h - φ u)) (lev F R (φ u)) : Int)))))), (3, .int (zi ((fr (u))))), (13, .long (zj (((100 * (rdU (sumL (lev F R) (φ u) (h - φ u)) (lev F R (φ u)) : Int)) - (((fr (u)) * q) * (rdL (sumL (lev F R) (φ u) (h - φ u)) (lev F R (φ u)) : Int)))))), (11, .long (zj ((rdL (sumL (lev F R) (φ u) (h - φ u)) (lev F R (φ u)) : Int)))), (9, .long (zj ((sumL (lev F R) (φ u) (h - (φ u)) : Int)))), (0, .ref (ad 2)), (1, .int (zi ((h : Int)))), (2, .int (zi (q)))]) (pc := 140) hx hb dX0_bestRunIn_140 hl (k := 9) rfl (zi_add _ _) (by decide) rfl (fun ls hl => ?_)
              refine lv_goto (tgt := 11) (pc := 143) hx hb dX0_bestRunIn_143 (by decide) ?_
              exact ih  _ _ _ _ (by omega) (hset) ls (lv_sub hl [7, 8, 9, 3, 2, 1, 0] rfl)
  refine z_iconst (pc := 0) hx hb dX0_bestRunIn_0 ?_
  refine lv_istore_n (lv' := [(3, .int (zi (0))), (0, .ref (ad 2)), (1, .int (zi ((h : Int)))), (2, .int (zi (q)))]) (pc := 1) hx hb dX0_bestRunIn_1 rfl hl (by decide) rfl (fun ls hl => ?_)
  refine z_lconst0 (pc := 2) hx hb dX0_bestRunIn_2 ?_
  refine lv_lstore (lv' := [(4, .long (zj (0))), (3, .int (zi (0))), (0, .ref (ad 2)), (1, .int (zi ((h : Int)))), (2, .int (zi (q)))]) (pc := 3) hx hb dX0_bestRunIn_3 hl (by decide) rfl (fun ls hl => ?_)
  refine z_lconst0 (pc := 5) hx hb dX0_bestRunIn_5 ?_
  refine lv_lstore (lv' := [(6, .long (zj (0))), (4, .long (zj (0))), (3, .int (zi (0))), (0, .ref (ad 2)), (1, .int (zi ((h : Int)))), (2, .int (zi (q)))]) (pc := 6) hx hb dX0_bestRunIn_6 hl (by decide) rfl (fun ls hl => ?_)
  refine z_iconst (pc := 8) hx hb dX0_bestRunIn_8 ?_
  refine lv_istore (lv' := [(8, .int (zi (0))), (6, .long (zj (0))), (4, .long (zj (0))), (3, .int (zi (0))), (0, .ref (ad 2)), (1, .int (zi ((h : Int)))), (2, .int (zi (q)))]) (pc := 9) hx hb dX0_bestRunIn_9 hl (by decide) rfl (fun ls hl => ?_)
  exact loop 0 (by omega) _ _ _ _ (by rfl) (Or.inl ⟨rfl, rfl⟩) ls (lv_sub hl [4, 5, 6, 3, 2, 1, 0] rfl)
