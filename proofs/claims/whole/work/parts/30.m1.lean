set_option maxHeartbeats 4000000 in
set_option maxRecDepth 100000 in
theorem c_X4_in (D : va_G) (cI cJ : ClassId) (l : Launch)  (v : Int) (r_v : -9223372036854775808 ≤ v ∧ v ≤ 9223372036854775807) (a : Int) (r_a : -9223372036854775808 ≤ a ∧ a ≤ 9223372036854775807) (b : Int) (r_b : -9223372036854775808 ≤ b ∧ b ≤ 9223372036854775807) : RD D cI cJ l yX4_in cX4_in 6 (some .boolean) 0 0 [.long (zj (v)), .long (zj (a)), .long (zj (b))] [] (.int (bI (a ≤ v ∧ v ≤ b))) := by
  refine RD.of (by decide) (Nat.le_of_ble_eq_true rfl) ?_
  intro p e s m args below meth c hx hb hrt hml hown hT hlk hK hP ls hl
  replace hl : lv_has ls 6 [(0, .long (zj (v))), (2, .long (zj (a))), (4, .long (zj (b)))] := hl
  refine lv_lload_n (pc := 0) hx hb dX4_in_0 rfl (lv_at hl 0 rfl) ?_
  refine lv_lload_n (pc := 1) hx hb dX4_in_1 rfl (lv_at hl 1 rfl) ?_
  refine z_lcmp_lt (tgt := 17) (pc := 2) hx hb dX4_in_2 dX4_in_3 (by decide) (by omega) (by omega) (fun c_1 => ?_) (fun c_1 => ?_)
  · refine z_iconst (pc := 17) hx hb dX4_in_17 ?_
    exact rd_zret hx hb hrt hlk dX4_in_18 (bI0 (by omega))
  · refine lv_lload_n (pc := 6) hx hb dX4_in_6 rfl (lv_at hl 0 rfl) ?_
    refine lv_lload (pc := 7) hx hb dX4_in_7 (lv_at hl 2 rfl) ?_
    refine z_lcmp_gt (tgt := 17) (pc := 9) hx hb dX4_in_9 dX4_in_10 (by decide) (by omega) (by omega) (fun c_2 => ?_) (fun c_2 => ?_)
    · refine z_iconst (pc := 17) hx hb dX4_in_17 ?_
      exact rd_zret hx hb hrt hlk dX4_in_18 (bI0 (by omega))
    · refine z_iconst (pc := 13) hx hb dX4_in_13 ?_
      refine lv_goto (tgt := 18) (pc := 14) hx hb dX4_in_14 (by decide) ?_
      exact rd_zret hx hb hrt hlk dX4_in_18 (bI1 (by omega))

set_option maxHeartbeats 4000000 in
set_option maxRecDepth 100000 in
theorem c_X4_isStress (D : va_G) (cI cJ : ClassId) (l : Launch)  (v : Int) (r_v : -2147483648 ≤ v ∧ v ≤ 2147483647) : RD D cI cJ l yX4_isStress cX4_isStress 1 (some .boolean) 1 25 [.int (zi (v))] [] (.int (bI (0 ≤ v ∧ v ≤ 3))) := by
  refine RD.of (by decide) (Nat.le_of_ble_eq_true rfl) ?_
  intro p e s m args below meth c hx hb hrt hml hown hT hlk hK hP ls hl
  replace hl : lv_has ls 1 [(0, .int (zi (v)))] := hl
  refine lv_iload_n (pc := 0) hx hb dX4_isStress_0 rfl (lv_at hl 0 rfl) ?_
  refine z_i2l (pc := 1) hx hb (by omega) dX4_isStress_1 ?_
  refine z_lconst0 (pc := 2) hx hb dX4_isStress_2 ?_
  refine z_ldc2 (pc := 3) hx hb (3) hown (hT _ tw_399) (by decide) dX4_isStress_3 ?_
  refine rd_S (pc := 6) hx hb hml hown hT hK (c_X4_in D cI cJ l (v) (by omega) (0) (by omega) (3) (by omega)) ca_X4_in tw_400 va_Pnil ⟨Nat.le_of_ble_eq_true rfl, Nat.le_of_ble_eq_true rfl⟩ rfl hl.1 (As := [.long (zj (v)), .long (zj (0)), .long (zj (3))]) (rest := []) rfl (Nat.le_of_ble_eq_true rfl) ⟨Nat.le_of_ble_eq_true rfl, Nat.le_of_ble_eq_true rfl⟩ dX4_isStress_6 ?_
  exact rd_zret hx hb hrt hlk dX4_isStress_9 (bI_c (by omega))

set_option maxHeartbeats 4000000 in
set_option maxRecDepth 100000 in
theorem c_X4_isCause (D : va_G) (cI cJ : ClassId) (l : Launch)  (v : Int) (r_v : -2147483648 ≤ v ∧ v ≤ 2147483647) : RD D cI cJ l yX4_isCause cX4_isCause 1 (some .boolean) 1 25 [.int (zi (v))] [] (.int (bI (-1 ≤ v ∧ v ≤ 2))) := by
  refine RD.of (by decide) (Nat.le_of_ble_eq_true rfl) ?_
  intro p e s m args below meth c hx hb hrt hml hown hT hlk hK hP ls hl
  replace hl : lv_has ls 1 [(0, .int (zi (v)))] := hl
  refine lv_iload_n (pc := 0) hx hb dX4_isCause_0 rfl (lv_at hl 0 rfl) ?_
  refine z_i2l (pc := 1) hx hb (by omega) dX4_isCause_1 ?_
  refine z_ldc2 (pc := 2) hx hb (-1) hown (hT _ tw_407) (by decide) dX4_isCause_2 ?_
  refine z_ldc2 (pc := 5) hx hb (2) hown (hT _ tw_408) (by decide) dX4_isCause_5 ?_
  refine rd_S (pc := 8) hx hb hml hown hT hK (c_X4_in D cI cJ l (v) (by omega) (-1) (by omega) (2) (by omega)) ca_X4_in tw_400 va_Pnil ⟨Nat.le_of_ble_eq_true rfl, Nat.le_of_ble_eq_true rfl⟩ rfl hl.1 (As := [.long (zj (v)), .long (zj (-1)), .long (zj (2))]) (rest := []) rfl (Nat.le_of_ble_eq_true rfl) ⟨Nat.le_of_ble_eq_true rfl, Nat.le_of_ble_eq_true rfl⟩ dX4_isCause_8 ?_
  exact rd_zret hx hb hrt hlk dX4_isCause_11 (bI_c (by omega))

set_option maxHeartbeats 4000000 in
set_option maxRecDepth 100000 in
theorem c_X4_isSet (D : va_G) (cI cJ : ClassId) (l : Launch)  (v : Int) (r_v : -2147483648 ≤ v ∧ v ≤ 2147483647) : RD D cI cJ l yX4_isSet cX4_isSet 1 (some .boolean) 1 25 [.int (zi (v))] [] (.int (bI (0 ≤ v ∧ v ≤ 15))) := by
  refine RD.of (by decide) (Nat.le_of_ble_eq_true rfl) ?_
  intro p e s m args below meth c hx hb hrt hml hown hT hlk hK hP ls hl
  replace hl : lv_has ls 1 [(0, .int (zi (v)))] := hl
  refine lv_iload_n (pc := 0) hx hb dX4_isSet_0 rfl (lv_at hl 0 rfl) ?_
  refine z_i2l (pc := 1) hx hb (by omega) dX4_isSet_1 ?_
  refine z_lconst0 (pc := 2) hx hb dX4_isSet_2 ?_
  refine z_ldc2 (pc := 3) hx hb (15) hown (hT _ tw_436) (by decide) dX4_isSet_3 ?_
  refine rd_S (pc := 6) hx hb hml hown hT hK (c_X4_in D cI cJ l (v) (by omega) (0) (by omega) (15) (by omega)) ca_X4_in tw_400 va_Pnil ⟨Nat.le_of_ble_eq_true rfl, Nat.le_of_ble_eq_true rfl⟩ rfl hl.1 (As := [.long (zj (v)), .long (zj (0)), .long (zj (15))]) (rest := []) rfl (Nat.le_of_ble_eq_true rfl) ⟨Nat.le_of_ble_eq_true rfl, Nat.le_of_ble_eq_true rfl⟩ dX4_isSet_6 ?_
  exact rd_zret hx hb hrt hlk dX4_isSet_9 (bI_c (by omega))

set_option maxHeartbeats 4000000 in
set_option maxRecDepth 100000 in
theorem c_X4_isUnitLike (D : va_G) (cI cJ : ClassId) (l : Launch)  (a : Int) (r_a : -2147483648 ≤ a ∧ a ≤ 2147483647) (b : Int) (r_b : -2147483648 ≤ b ∧ b ≤ 2147483647) (d : Int) (r_d : -2147483648 ≤ d ∧ d ≤ 2147483647) : RD D cI cJ l yX4_isUnitLike cX4_isUnitLike 3 (some .boolean) 2 45 [.int (zi (a)), .int (zi (b)), .int (zi (d))] [] (.int (bI ((0 ≤ a ∧ a ≤ 3) ∧ (1 ≤ b ∧ b ≤ 500) ∧ (-1 ≤ d ∧ d ≤ 2)))) := by
  refine RD.of (by decide) (Nat.le_of_ble_eq_true rfl) ?_
  intro p e s m args below meth c hx hb hrt hml hown hT hlk hK hP ls hl
  replace hl : lv_has ls 3 [(0, .int (zi (a))), (1, .int (zi (b))), (2, .int (zi (d)))] := hl
  refine lv_iload_n (pc := 0) hx hb dX4_isUnitLike_0 rfl (lv_at hl 0 rfl) ?_
  refine rd_S (pc := 1) hx hb hml hown hT hK (c_X4_isStress D cI cJ l (a) (by omega)) ca_X4_isStress tw_396 va_Pnil ⟨Nat.le_of_ble_eq_true rfl, Nat.le_of_ble_eq_true rfl⟩ rfl hl.1 (As := [.int (zi (a))]) (rest := []) rfl (Nat.le_of_ble_eq_true rfl) ⟨Nat.le_of_ble_eq_true rfl, Nat.le_of_ble_eq_true rfl⟩ dX4_isUnitLike_1 ?_
  refine z_ifB_eq (tgt := 30) (pc := 4) hx hb dX4_isUnitLike_4 (by decide) (fun c_1 => ?_) (fun c_1 => ?_)
  · refine z_iconst (pc := 30) hx hb dX4_isUnitLike_30 ?_
    exact rd_zret hx hb hrt hlk dX4_isUnitLike_31 (bI0 (by omega))
  · refine lv_iload_n (pc := 7) hx hb dX4_isUnitLike_7 rfl (lv_at hl 1 rfl) ?_
    refine z_i2l (pc := 8) hx hb (by omega) dX4_isUnitLike_8 ?_
    refine z_lconst1 (pc := 9) hx hb dX4_isUnitLike_9 ?_
    refine z_ldc2 (pc := 10) hx hb (500) hown (hT _ tw_403) (by decide) dX4_isUnitLike_10 ?_
    refine rd_S (pc := 13) hx hb hml hown hT hK (c_X4_in D cI cJ l (b) (by omega) (1) (by omega) (500) (by omega)) ca_X4_in tw_400 va_Pnil ⟨Nat.le_of_ble_eq_true rfl, Nat.le_of_ble_eq_true rfl⟩ rfl hl.1 (As := [.long (zj (b)), .long (zj (1)), .long (zj (500))]) (rest := []) rfl (Nat.le_of_ble_eq_true rfl) ⟨Nat.le_of_ble_eq_true rfl, Nat.le_of_ble_eq_true rfl⟩ dX4_isUnitLike_13 ?_
    refine z_ifB_eq (tgt := 30) (pc := 16) hx hb dX4_isUnitLike_16 (by decide) (fun c_2 => ?_) (fun c_2 => ?_)
    · refine z_iconst (pc := 30) hx hb dX4_isUnitLike_30 ?_
      exact rd_zret hx hb hrt hlk dX4_isUnitLike_31 (bI0 (by omega))
    · refine lv_iload_n (pc := 19) hx hb dX4_isUnitLike_19 rfl (lv_at hl 2 rfl) ?_
      refine rd_S (pc := 20) hx hb hml hown hT hK (c_X4_isCause D cI cJ l (d) (by omega)) ca_X4_isCause tw_404 va_Pnil ⟨Nat.le_of_ble_eq_true rfl, Nat.le_of_ble_eq_true rfl⟩ rfl hl.1 (As := [.int (zi (d))]) (rest := []) rfl (Nat.le_of_ble_eq_true rfl) ⟨Nat.le_of_ble_eq_true rfl, Nat.le_of_ble_eq_true rfl⟩ dX4_isUnitLike_20 ?_
      refine z_ifB_eq (tgt := 30) (pc := 23) hx hb dX4_isUnitLike_23 (by decide) (fun c_3 => ?_) (fun c_3 => ?_)
      · refine z_iconst (pc := 30) hx hb dX4_isUnitLike_30 ?_
        exact rd_zret hx hb hrt hlk dX4_isUnitLike_31 (bI0 (by omega))
      · refine z_iconst (pc := 26) hx hb dX4_isUnitLike_26 ?_
        refine lv_goto (tgt := 31) (pc := 27) hx hb dX4_isUnitLike_27 (by decide) ?_
        exact rd_zret hx hb hrt hlk dX4_isUnitLike_31 (bI1 (by omega))

set_option maxHeartbeats 4000000 in
set_option maxRecDepth 100000 in
theorem c_X4_isLaw (D : va_G) (cI cJ : ClassId) (l : Launch)  (b : Int) (r_b : -2147483648 ≤ b ∧ b ≤ 2147483647) (s_ : Int) (r_s_ : -2147483648 ≤ s_ ∧ s_ ≤ 2147483647) : RD D cI cJ l yX4_isLaw cX4_isLaw 2 (some .boolean) 1 25 [.int (zi (b)), .int (zi (s_))] [] (.int (bI ((1 ≤ b ∧ b ≤ 100000) ∧ (1 ≤ s_ ∧ s_ ≤ 20)))) := by
  refine RD.of (by decide) (Nat.le_of_ble_eq_true rfl) ?_
  intro p e s m args below meth c hx hb hrt hml hown hT hlk hK hP ls hl
  replace hl : lv_has ls 2 [(0, .int (zi (b))), (1, .int (zi (s_)))] := hl
  refine lv_iload_n (pc := 0) hx hb dX4_isLaw_0 rfl (lv_at hl 0 rfl) ?_
  refine z_i2l (pc := 1) hx hb (by omega) dX4_isLaw_1 ?_
  refine z_lconst1 (pc := 2) hx hb dX4_isLaw_2 ?_
  refine z_ldc2 (pc := 3) hx hb (100000) hown (hT _ tw_523) (by decide) dX4_isLaw_3 ?_
  refine rd_S (pc := 6) hx hb hml hown hT hK (c_X4_in D cI cJ l (b) (by omega) (1) (by omega) (100000) (by omega)) ca_X4_in tw_400 va_Pnil ⟨Nat.le_of_ble_eq_true rfl, Nat.le_of_ble_eq_true rfl⟩ rfl hl.1 (As := [.long (zj (b)), .long (zj (1)), .long (zj (100000))]) (rest := []) rfl (Nat.le_of_ble_eq_true rfl) ⟨Nat.le_of_ble_eq_true rfl, Nat.le_of_ble_eq_true rfl⟩ dX4_isLaw_6 ?_
  refine z_ifB_eq (tgt := 28) (pc := 9) hx hb dX4_isLaw_9 (by decide) (fun c_1 => ?_) (fun c_1 => ?_)
  · refine z_iconst (pc := 28) hx hb dX4_isLaw_28 ?_
    exact rd_zret hx hb hrt hlk dX4_isLaw_29 (bI0 (by omega))
  · refine lv_iload_n (pc := 12) hx hb dX4_isLaw_12 rfl (lv_at hl 1 rfl) ?_
    refine z_i2l (pc := 13) hx hb (by omega) dX4_isLaw_13 ?_
    refine z_lconst1 (pc := 14) hx hb dX4_isLaw_14 ?_
    refine z_ldc2 (pc := 15) hx hb (20) hown (hT _ tw_524) (by decide) dX4_isLaw_15 ?_
    refine rd_S (pc := 18) hx hb hml hown hT hK (c_X4_in D cI cJ l (s_) (by omega) (1) (by omega) (20) (by omega)) ca_X4_in tw_400 va_Pnil ⟨Nat.le_of_ble_eq_true rfl, Nat.le_of_ble_eq_true rfl⟩ rfl hl.1 (As := [.long (zj (s_)), .long (zj (1)), .long (zj (20))]) (rest := []) rfl (Nat.le_of_ble_eq_true rfl) ⟨Nat.le_of_ble_eq_true rfl, Nat.le_of_ble_eq_true rfl⟩ dX4_isLaw_18 ?_
    refine z_ifB_eq (tgt := 28) (pc := 21) hx hb dX4_isLaw_21 (by decide) (fun c_2 => ?_) (fun c_2 => ?_)
    · refine z_iconst (pc := 28) hx hb dX4_isLaw_28 ?_
      exact rd_zret hx hb hrt hlk dX4_isLaw_29 (bI0 (by omega))
    · refine z_iconst (pc := 24) hx hb dX4_isLaw_24 ?_
      refine lv_goto (tgt := 29) (pc := 25) hx hb dX4_isLaw_25 (by decide) ?_
      exact rd_zret hx hb hrt hlk dX4_isLaw_29 (bI1 (by omega))

set_option maxHeartbeats 4000000 in
set_option maxRecDepth 100000 in
theorem c_X4_isUnit (D : va_G) (cI cJ : ClassId) (l : Launch) (ad : Nat → Nat) (n : Int) (st hr ca sp : Nat → Int) (k : Int) (ts th : Nat → Int) (pr hc lu ll up lo : Int) (fr rr hv : Nat → Int) (hn : 0 ≤ n ∧ n ≤ 12) (z : Int) (r_z : -2147483648 ≤ z ∧ z ≤ 2147483647) : RD D cI cJ l yX4_isUnit cX4_isUnit 2 (some .boolean) 1 25 [.ref (ad 0), .int (zi (z))] (wM ad cI n st hr ca sp k ts th pr hc lu ll up lo fr rr hv) (.int (bI (0 ≤ z ∧ z ≤ n - 1))) := by
  refine RD.of (by decide) (Nat.le_of_ble_eq_true rfl) ?_
  intro p e s m args below meth c hx hb hrt hml hown hT hlk hK hP ls hl
  replace hl : lv_has ls 2 [(0, .ref (ad 0)), (1, .int (zi (z)))] := hl
  refine lv_iload_n (pc := 0) hx hb dX4_isUnit_0 rfl (lv_at hl 1 rfl) ?_
  refine z_i2l (pc := 1) hx hb (by omega) dX4_isUnit_1 ?_
  refine z_lconst0 (pc := 2) hx hb dX4_isUnit_2 ?_
  refine lv_aload_n (pc := 3) hx hb dX4_isUnit_3 rfl (lv_at hl 0 rfl) ?_
  refine va_get (D := D) (cl := vwCl) (ci := 4) (v := .int (zi (n))) (C := RX4) (T := TX4) (N := 17) (pc := 4) hx hb hT inT4 hown hK.1 hP 0 rfl rfl 0 (by decide) (hT _ tw_337) (fun _ h9 => h9) rfl dX4_isUnit_4 ?_
  refine z_iconst (pc := 7) hx hb dX4_isUnit_7 ?_
  refine z_isub (pc := 8) hx hb dX4_isUnit_8 ?_
  refine z_i2l (pc := 9) hx hb (by omega) dX4_isUnit_9 ?_
  refine rd_S (pc := 10) hx hb hml hown hT hK (c_X4_in D cI cJ l (z) (by omega) (0) (by omega) ((n - 1)) (by omega)) ca_X4_in tw_400 va_Pnil ⟨Nat.le_of_ble_eq_true rfl, Nat.le_of_ble_eq_true rfl⟩ rfl hl.1 (As := [.long (zj (z)), .long (zj (0)), .long (zj ((n - 1)))]) (rest := []) rfl (Nat.le_of_ble_eq_true rfl) ⟨Nat.le_of_ble_eq_true rfl, Nat.le_of_ble_eq_true rfl⟩ dX4_isUnit_10 ?_
  exact rd_zret hx hb hrt hlk dX4_isUnit_13 (bI_c (by omega))

set_option maxHeartbeats 4000000 in
set_option maxRecDepth 100000 in
theorem c_X4_unit (D : va_G) (cI cJ : ClassId) (l : Launch) (ad : Nat → Nat) (n : Int) (st hr ca sp : Nat → Int) (k : Int) (ts th : Nat → Int) (pr hc lu ll up lo : Int) (fr rr hv : Nat → Int) (hU : VU n st hr ca) (a : Int) (r_a : -2147483648 ≤ a ∧ a ≤ 2147483647) (b : Int) (r_b : -2147483648 ≤ b ∧ b ≤ 2147483647) (d : Int) (r_d : -2147483648 ≤ d ∧ d ≤ 2147483647) : WR D cI cJ l yX4_unit cX4_unit 4 (some .int) 3 67 [.ref (ad 0), .int (zi (a)), .int (zi (b)), .int (zi (d))] (wM ad cI n st hr ca sp k ts th pr hc lu ll up lo fr rr hv) (fun v' ws' => ∃ x : Int × Int × (Nat → Int) × (Nat → Int) × (Nat → Int), x = unitS n st hr ca a b d ∧ v' = .int (zi x.1) ∧ ws' = (wM ad cI x.2.1 x.2.2.1 x.2.2.2.1 x.2.2.2.2 sp k ts th pr hc lu ll up lo fr rr hv)) := by
  refine WR.of (by decide) (Nat.le_of_ble_eq_true rfl) ?_
  intro p e s m args below meth c hx hb hrt hml hown hT hlk hK hP hD hS ls hl
  replace hl : lv_has ls 4 [(0, .ref (ad 0)), (1, .int (zi (a))), (2, .int (zi (b))), (3, .int (zi (d)))] := hl
  obtain ⟨hn, hst, hhr, hh1, hca⟩ := id hU
  refine lv_iload_n (pc := 0) hx hb dX4_unit_0 rfl (lv_at hl 1 rfl) ?_
  refine lv_iload_n (pc := 1) hx hb dX4_unit_1 rfl (lv_at hl 2 rfl) ?_
  refine lv_iload_n (pc := 2) hx hb dX4_unit_2 rfl (lv_at hl 3 rfl) ?_
  refine rd_S (pc := 3) hx hb hml hown hT hK (c_X4_isUnitLike D cI cJ l (a) (by omega) (b) (by omega) (d) (by omega)) ca_X4_isUnitLike tw_393 va_Pnil ⟨Nat.le_of_ble_eq_true rfl, Nat.le_of_ble_eq_true rfl⟩ rfl hl.1 (As := [.int (zi (a)), .int (zi (b)), .int (zi (d))]) (rest := []) rfl (Nat.le_of_ble_eq_true rfl) ⟨Nat.le_of_ble_eq_true rfl, Nat.le_of_ble_eq_true rfl⟩ dX4_unit_3 ?_
  refine z_ifB_ne (tgt := 13) (pc := 6) hx hb dX4_unit_6 (by decide) (fun c_1 => ?_) (fun c_1 => ?_)
  · refine lv_aload_n (pc := 13) hx hb dX4_unit_13 rfl (lv_at hl 0 rfl) ?_
    refine va_get (D := D) (cl := vwCl) (ci := 4) (v := .int (zi (n))) (C := RX4) (T := TX4) (N := 17) (pc := 14) hx hb hT inT4 hown hK.1 hP 0 rfl rfl 0 (by decide) (hT _ tw_337) (fun _ h9 => h9) rfl dX4_unit_14 ?_
    refine z_bipush (pc := 17) hx hb dX4_unit_17 (by decide) ?_
    refine z_icmp_ne (tgt := 26) (pc := 19) hx hb dX4_unit_19 (by decide) (by omega) (by omega) (fun c_2 => ?_) (fun c_2 => ?_)
    · refine lv_aload_n (pc := 26) hx hb dX4_unit_26 rfl (lv_at hl 0 rfl) ?_
      refine va_get (D := D) (cl := vwCl) (ci := 4) (v := .ref (ad 1)) (C := RX4) (T := TX4) (N := 17) (pc := 27) hx hb hT inT4 hown hK.1 hP 0 rfl rfl 1 (by decide) (hT _ tw_338) (fun _ h9 => h9) rfl dX4_unit_27 ?_
      refine lv_aload_n (pc := 30) hx hb dX4_unit_30 rfl (lv_at hl 0 rfl) ?_
      refine va_get (D := D) (cl := vwCl) (ci := 4) (v := .int (zi (n))) (C := RX4) (T := TX4) (N := 17) (pc := 31) hx hb hT inT4 hown hK.1 hP 0 rfl rfl 0 (by decide) (hT _ tw_337) (fun _ h9 => h9) rfl dX4_unit_31 ?_
      refine lv_iload_n (pc := 34) hx hb dX4_unit_34 rfl (lv_at hl 1 rfl) ?_
      refine z_iast (pc := 35) hx hb hK hP hD hS 1 (n.toNat) (f := st) (x := a) rfl (by omega) (by omega) (by omega) dX4_unit_35 (fun H locs hP hD hS => ?_)
      replace hP : va_P D vwCl (wM ad cI n (uZ st (n.toNat) (a)) hr ca sp k ts th pr hc lu ll up lo fr rr hv) H := hP
      replace hD : va_D (inW (wM ad cI n st hr ca sp k ts th pr hc lu ll up lo fr rr hv)) (wM ad cI n (uZ st (n.toNat) (a)) hr ca sp k ts th pr hc lu ll up lo fr rr hv) := hD
      refine lv_aload_n (pc := 36) hx hb dX4_unit_36 rfl (lv_at hl 0 rfl) ?_
      refine va_get (D := D) (cl := vwCl) (ci := 4) (v := .ref (ad 2)) (C := RX4) (T := TX4) (N := 17) (pc := 37) hx hb hT inT4 hown hK.1 hP 0 rfl rfl 2 (by decide) (hT _ tw_339) (fun _ h9 => h9) rfl dX4_unit_37 ?_
      refine lv_aload_n (pc := 40) hx hb dX4_unit_40 rfl (lv_at hl 0 rfl) ?_
      refine va_get (D := D) (cl := vwCl) (ci := 4) (v := .int (zi (n))) (C := RX4) (T := TX4) (N := 17) (pc := 41) hx hb hT inT4 hown hK.1 hP 0 rfl rfl 0 (by decide) (hT _ tw_337) (fun _ h9 => h9) rfl dX4_unit_41 ?_
      refine lv_iload_n (pc := 44) hx hb dX4_unit_44 rfl (lv_at hl 2 rfl) ?_
      refine z_iast (pc := 45) hx hb hK hP hD hS 2 (n.toNat) (f := hr) (x := b) rfl (by omega) (by omega) (by omega) dX4_unit_45 (fun H locs hP hD hS => ?_)
      replace hP : va_P D vwCl (wM ad cI n (uZ st (n.toNat) (a)) (uZ hr (n.toNat) (b)) ca sp k ts th pr hc lu ll up lo fr rr hv) H := hP
      replace hD : va_D (inW (wM ad cI n st hr ca sp k ts th pr hc lu ll up lo fr rr hv)) (wM ad cI n (uZ st (n.toNat) (a)) (uZ hr (n.toNat) (b)) ca sp k ts th pr hc lu ll up lo fr rr hv) := hD
      refine lv_aload_n (pc := 46) hx hb dX4_unit_46 rfl (lv_at hl 0 rfl) ?_
      refine va_get (D := D) (cl := vwCl) (ci := 4) (v := .ref (ad 3)) (C := RX4) (T := TX4) (N := 17) (pc := 47) hx hb hT inT4 hown hK.1 hP 0 rfl rfl 3 (by decide) (hT _ tw_340) (fun _ h9 => h9) rfl dX4_unit_47 ?_
      refine lv_aload_n (pc := 50) hx hb dX4_unit_50 rfl (lv_at hl 0 rfl) ?_
      refine va_get (D := D) (cl := vwCl) (ci := 4) (v := .int (zi (n))) (C := RX4) (T := TX4) (N := 17) (pc := 51) hx hb hT inT4 hown hK.1 hP 0 rfl rfl 0 (by decide) (hT _ tw_337) (fun _ h9 => h9) rfl dX4_unit_51 ?_
      refine lv_iload_n (pc := 54) hx hb dX4_unit_54 rfl (lv_at hl 3 rfl) ?_
      refine z_iast (pc := 55) hx hb hK hP hD hS 3 (n.toNat) (f := ca) (x := d) rfl (by omega) (by omega) (by omega) dX4_unit_55 (fun H locs hP hD hS => ?_)
      replace hP : va_P D vwCl (wM ad cI n (uZ st (n.toNat) (a)) (uZ hr (n.toNat) (b)) (uZ ca (n.toNat) (d)) sp k ts th pr hc lu ll up lo fr rr hv) H := hP
      replace hD : va_D (inW (wM ad cI n st hr ca sp k ts th pr hc lu ll up lo fr rr hv)) (wM ad cI n (uZ st (n.toNat) (a)) (uZ hr (n.toNat) (b)) (uZ ca (n.toNat) (d)) sp k ts th pr hc lu ll up lo fr rr hv) := hD
      refine lv_aload_n (pc := 56) hx hb dX4_unit_56 rfl (lv_at hl 0 rfl) ?_
      refine lv_dup (pc := 57) hx hb dX4_unit_57 rfl ?_
      refine va_get (D := D) (cl := vwCl) (ci := 4) (v := .int (zi (n))) (C := RX4) (T := TX4) (N := 17) (pc := 58) hx hb hT inT4 hown hK.1 hP 0 rfl rfl 0 (by decide) (hT _ tw_337) (fun _ h9 => h9) rfl dX4_unit_58 ?_
      refine z_iconst (pc := 61) hx hb dX4_unit_61 ?_
      refine z_iadd (pc := 62) hx hb dX4_unit_62 ?_
      refine va_put (D := D) (cl := vwCl) (ci := 4) (v := .int (zi ((n + 1)))) (ty := .int) (C := RX4) (T := TX4) (N := 17) (pc := 63) hx hb hT inT4 tyX4 tyX4_ok nmX4 hown hK.1 hP hD hS 0 rfl rfl 0 (by decide) (hT _ tw_337) (fun _ h9 => h9) rfl (by decide +kernel) rfl rfl (Nat.le_of_ble_eq_true rfl) dX4_unit_63 (fun H locs hP hD hS => ?_)
      replace hP : va_P D vwCl (wM ad cI ((n + 1)) (uZ st (n.toNat) (a)) (uZ hr (n.toNat) (b)) (uZ ca (n.toNat) (d)) sp k ts th pr hc lu ll up lo fr rr hv) H := hP
      replace hD : va_D (inW (wM ad cI n st hr ca sp k ts th pr hc lu ll up lo fr rr hv)) (wM ad cI ((n + 1)) (uZ st (n.toNat) (a)) (uZ hr (n.toNat) (b)) (uZ ca (n.toNat) (d)) sp k ts th pr hc lu ll up lo fr rr hv) := hD
      refine lv_aload_n (pc := 66) hx hb dX4_unit_66 rfl (lv_at hl 0 rfl) ?_
      refine va_get (D := D) (cl := vwCl) (ci := 4) (v := .int (zi ((n + 1)))) (C := RX4) (T := TX4) (N := 17) (pc := 67) hx hb hT inT4 hown hK.1 hP 0 rfl rfl 0 (by decide) (hT _ tw_337) (fun _ h9 => h9) rfl dX4_unit_67 ?_
      refine z_iconst (pc := 70) hx hb dX4_unit_70 ?_
      refine z_isub (pc := 71) hx hb dX4_unit_71 ?_
      exact wr_iret hx hb hrt hlk dX4_unit_72 hP hS (⟨(n, n + 1, uZ st n.toNat a, uZ hr n.toNat b, uZ ca n.toNat d), by rw [unitS, if_pos (by assumption), if_pos (by omega)], by rw [show n + 1 - 1 = n by omega], rfl⟩)
    · refine z_sipush (pc := 22) hx hb dX4_unit_22 (by decide) ?_
      exact wr_iret hx hb hrt hlk dX4_unit_25 hP hS (⟨(-1004, n, st, hr, ca), by rw [unitS, if_pos (by assumption), if_neg (by omega)], rfl, rfl⟩)
  · refine z_sipush (pc := 9) hx hb dX4_unit_9 (by decide) ?_
    exact wr_iret hx hb hrt hlk dX4_unit_12 hP hS (⟨(-1002, n, st, hr, ca), by rw [unitS, if_neg (by assumption)], rfl, rfl⟩)

set_option maxHeartbeats 4000000 in
set_option maxRecDepth 100000 in
theorem c_X4_set (D : va_G) (cI cJ : ClassId) (l : Launch) (ad : Nat → Nat) (n : Int) (st hr ca sp : Nat → Int) (k : Int) (ts th : Nat → Int) (pr hc lu ll up lo : Int) (fr rr hv : Nat → Int) (hU : VU n st hr ca) (z : Int) (r_z : -2147483648 ≤ z ∧ z ≤ 2147483647) (a : Int) (r_a : -2147483648 ≤ a ∧ a ≤ 2147483647) (b : Int) (r_b : -2147483648 ≤ b ∧ b ≤ 2147483647) (d : Int) (r_d : -2147483648 ≤ d ∧ d ≤ 2147483647) : WR D cI cJ l yX4_set cX4_set 5 (some .int) 3 67 [.ref (ad 0), .int (zi (z)), .int (zi (a)), .int (zi (b)), .int (zi (d))] (wM ad cI n st hr ca sp k ts th pr hc lu ll up lo fr rr hv) (fun v' ws' => ∃ x : Int × (Nat → Int) × (Nat → Int) × (Nat → Int), x = setS n st hr ca z a b d ∧ v' = .int (zi x.1) ∧ ws' = (wM ad cI n x.2.1 x.2.2.1 x.2.2.2 sp k ts th pr hc lu ll up lo fr rr hv)) := by
  refine WR.of (by decide) (Nat.le_of_ble_eq_true rfl) ?_
  intro p e s m args below meth c hx hb hrt hml hown hT hlk hK hP hD hS ls hl
  replace hl : lv_has ls 5 [(0, .ref (ad 0)), (1, .int (zi (z))), (2, .int (zi (a))), (3, .int (zi (b))), (4, .int (zi (d)))] := hl
  obtain ⟨hn, hst, hhr, hh1, hca⟩ := id hU
  refine lv_aload_n (pc := 0) hx hb dX4_set_0 rfl (lv_at hl 0 rfl) ?_
  refine lv_iload_n (pc := 1) hx hb dX4_set_1 rfl (lv_at hl 1 rfl) ?_
  refine rd_V (pc := 2) hx hb hml hown hT hK (c_X4_isUnit D cI cJ l ad n st hr ca sp k ts th pr hc lu ll up lo fr rr hv (by omega) (z) (by omega)) ca_X4_isUnit tw_413 hP 0 4 rfl rfl rfl ⟨Nat.le_of_ble_eq_true rfl, Nat.le_of_ble_eq_true rfl⟩ rfl hl.1 (As := [.int (zi (z))]) (rest := []) rfl (Nat.le_of_ble_eq_true rfl) ⟨Nat.le_of_ble_eq_true rfl, Nat.le_of_ble_eq_true rfl⟩ dX4_set_2 ?_
  refine z_ifB_ne (tgt := 12) (pc := 5) hx hb dX4_set_5 (by decide) (fun c_1 => ?_) (fun c_1 => ?_)
  · refine lv_iload_n (pc := 12) hx hb dX4_set_12 rfl (lv_at hl 2 rfl) ?_
    refine lv_iload_n (pc := 13) hx hb dX4_set_13 rfl (lv_at hl 3 rfl) ?_
    refine lv_iload (pc := 14) hx hb dX4_set_14 (lv_at hl 4 rfl) ?_
    refine rd_S (pc := 16) hx hb hml hown hT hK (c_X4_isUnitLike D cI cJ l (a) (by omega) (b) (by omega) (d) (by omega)) ca_X4_isUnitLike tw_393 va_Pnil ⟨Nat.le_of_ble_eq_true rfl, Nat.le_of_ble_eq_true rfl⟩ rfl hl.1 (As := [.int (zi (a)), .int (zi (b)), .int (zi (d))]) (rest := []) rfl (Nat.le_of_ble_eq_true rfl) ⟨Nat.le_of_ble_eq_true rfl, Nat.le_of_ble_eq_true rfl⟩ dX4_set_16 ?_
    refine z_ifB_ne (tgt := 26) (pc := 19) hx hb dX4_set_19 (by decide) (fun c_2 => ?_) (fun c_2 => ?_)
    · refine lv_aload_n (pc := 26) hx hb dX4_set_26 rfl (lv_at hl 0 rfl) ?_
      refine va_get (D := D) (cl := vwCl) (ci := 4) (v := .ref (ad 1)) (C := RX4) (T := TX4) (N := 17) (pc := 27) hx hb hT inT4 hown hK.1 hP 0 rfl rfl 1 (by decide) (hT _ tw_338) (fun _ h9 => h9) rfl dX4_set_27 ?_
      refine lv_iload_n (pc := 30) hx hb dX4_set_30 rfl (lv_at hl 1 rfl) ?_
      refine lv_iload_n (pc := 31) hx hb dX4_set_31 rfl (lv_at hl 2 rfl) ?_
      refine z_iast (pc := 32) hx hb hK hP hD hS 1 (z.toNat) (f := st) (x := a) rfl (by omega) (by omega) (by omega) dX4_set_32 (fun H locs hP hD hS => ?_)
      replace hP : va_P D vwCl (wM ad cI n (uZ st (z.toNat) (a)) hr ca sp k ts th pr hc lu ll up lo fr rr hv) H := hP
      replace hD : va_D (inW (wM ad cI n st hr ca sp k ts th pr hc lu ll up lo fr rr hv)) (wM ad cI n (uZ st (z.toNat) (a)) hr ca sp k ts th pr hc lu ll up lo fr rr hv) := hD
      refine lv_aload_n (pc := 33) hx hb dX4_set_33 rfl (lv_at hl 0 rfl) ?_
      refine va_get (D := D) (cl := vwCl) (ci := 4) (v := .ref (ad 2)) (C := RX4) (T := TX4) (N := 17) (pc := 34) hx hb hT inT4 hown hK.1 hP 0 rfl rfl 2 (by decide) (hT _ tw_339) (fun _ h9 => h9) rfl dX4_set_34 ?_
      refine lv_iload_n (pc := 37) hx hb dX4_set_37 rfl (lv_at hl 1 rfl) ?_
      refine lv_iload_n (pc := 38) hx hb dX4_set_38 rfl (lv_at hl 3 rfl) ?_
      refine z_iast (pc := 39) hx hb hK hP hD hS 2 (z.toNat) (f := hr) (x := b) rfl (by omega) (by omega) (by omega) dX4_set_39 (fun H locs hP hD hS => ?_)
      replace hP : va_P D vwCl (wM ad cI n (uZ st (z.toNat) (a)) (uZ hr (z.toNat) (b)) ca sp k ts th pr hc lu ll up lo fr rr hv) H := hP
      replace hD : va_D (inW (wM ad cI n st hr ca sp k ts th pr hc lu ll up lo fr rr hv)) (wM ad cI n (uZ st (z.toNat) (a)) (uZ hr (z.toNat) (b)) ca sp k ts th pr hc lu ll up lo fr rr hv) := hD
      refine lv_aload_n (pc := 40) hx hb dX4_set_40 rfl (lv_at hl 0 rfl) ?_
      refine va_get (D := D) (cl := vwCl) (ci := 4) (v := .ref (ad 3)) (C := RX4) (T := TX4) (N := 17) (pc := 41) hx hb hT inT4 hown hK.1 hP 0 rfl rfl 3 (by decide) (hT _ tw_340) (fun _ h9 => h9) rfl dX4_set_41 ?_
      refine lv_iload_n (pc := 44) hx hb dX4_set_44 rfl (lv_at hl 1 rfl) ?_
      refine lv_iload (pc := 45) hx hb dX4_set_45 (lv_at hl 4 rfl) ?_
      refine z_iast (pc := 47) hx hb hK hP hD hS 3 (z.toNat) (f := ca) (x := d) rfl (by omega) (by omega) (by omega) dX4_set_47 (fun H locs hP hD hS => ?_)
      replace hP : va_P D vwCl (wM ad cI n (uZ st (z.toNat) (a)) (uZ hr (z.toNat) (b)) (uZ ca (z.toNat) (d)) sp k ts th pr hc lu ll up lo fr rr hv) H := hP
      replace hD : va_D (inW (wM ad cI n st hr ca sp k ts th pr hc lu ll up lo fr rr hv)) (wM ad cI n (uZ st (z.toNat) (a)) (uZ hr (z.toNat) (b)) (uZ ca (z.toNat) (d)) sp k ts th pr hc lu ll up lo fr rr hv) := hD
      refine z_iconst (pc := 48) hx hb dX4_set_48 ?_
      exact wr_iret hx hb hrt hlk dX4_set_49 hP hS (⟨(1, uZ st z.toNat a, uZ hr z.toNat b, uZ ca z.toNat d), by rw [setS, if_pos (by assumption), if_pos (by assumption)], rfl, rfl⟩)
    · refine z_sipush (pc := 22) hx hb dX4_set_22 (by decide) ?_
      exact wr_iret hx hb hrt hlk dX4_set_25 hP hS (⟨(-1002, st, hr, ca), by rw [setS, if_pos (by assumption), if_neg (by assumption)], rfl, rfl⟩)
  · refine z_sipush (pc := 8) hx hb dX4_set_8 (by decide) ?_
    exact wr_iret hx hb hrt hlk dX4_set_11 hP hS (⟨(-1001, st, hr, ca), by rw [setS, if_neg (by assumption)], rfl, rfl⟩)

set_option maxHeartbeats 4000000 in
set_option maxRecDepth 100000 in
theorem c_X4_drop (D : va_G) (cI cJ : ClassId) (l : Launch) (ad : Nat → Nat) (n : Int) (st hr ca sp : Nat → Int) (k : Int) (ts th : Nat → Int) (pr hc lu ll up lo : Int) (fr rr hv : Nat → Int) (hU : VU n st hr ca) : WR D cI cJ l yX4_drop cX4_drop 1 (some .int) 0 0 [.ref (ad 0)] (wM ad cI n st hr ca sp k ts th pr hc lu ll up lo fr rr hv) (fun v' ws' => ∃ x : Int × Int, x = dropS n ∧ v' = .int (zi x.1) ∧ ws' = (wM ad cI x.2 st hr ca sp k ts th pr hc lu ll up lo fr rr hv)) := by
  refine WR.of (by decide) (Nat.le_of_ble_eq_true rfl) ?_
  intro p e s m args below meth c hx hb hrt hml hown hT hlk hK hP hD hS ls hl
  replace hl : lv_has ls 1 [(0, .ref (ad 0))] := hl
  obtain ⟨hn, hst, hhr, hh1, hca⟩ := id hU
  refine lv_aload_n (pc := 0) hx hb dX4_drop_0 rfl (lv_at hl 0 rfl) ?_
  refine va_get (D := D) (cl := vwCl) (ci := 4) (v := .int (zi (n))) (C := RX4) (T := TX4) (N := 17) (pc := 1) hx hb hT inT4 hown hK.1 hP 0 rfl rfl 0 (by decide) (hT _ tw_337) (fun _ h9 => h9) rfl dX4_drop_1 ?_
  refine z_if_ne (tgt := 11) (pc := 4) hx hb dX4_drop_4 (by decide) (by omega) (fun c_1 => ?_) (fun c_1 => ?_)
  · refine lv_aload_n (pc := 11) hx hb dX4_drop_11 rfl (lv_at hl 0 rfl) ?_
    refine lv_dup (pc := 12) hx hb dX4_drop_12 rfl ?_
    refine va_get (D := D) (cl := vwCl) (ci := 4) (v := .int (zi (n))) (C := RX4) (T := TX4) (N := 17) (pc := 13) hx hb hT inT4 hown hK.1 hP 0 rfl rfl 0 (by decide) (hT _ tw_337) (fun _ h9 => h9) rfl dX4_drop_13 ?_
    refine z_iconst (pc := 16) hx hb dX4_drop_16 ?_
    refine z_isub (pc := 17) hx hb dX4_drop_17 ?_
    refine va_put (D := D) (cl := vwCl) (ci := 4) (v := .int (zi ((n - 1)))) (ty := .int) (C := RX4) (T := TX4) (N := 17) (pc := 18) hx hb hT inT4 tyX4 tyX4_ok nmX4 hown hK.1 hP hD hS 0 rfl rfl 0 (by decide) (hT _ tw_337) (fun _ h9 => h9) rfl (by decide +kernel) rfl rfl (Nat.le_of_ble_eq_true rfl) dX4_drop_18 (fun H locs hP hD hS => ?_)
    replace hP : va_P D vwCl (wM ad cI ((n - 1)) st hr ca sp k ts th pr hc lu ll up lo fr rr hv) H := hP
    replace hD : va_D (inW (wM ad cI n st hr ca sp k ts th pr hc lu ll up lo fr rr hv)) (wM ad cI ((n - 1)) st hr ca sp k ts th pr hc lu ll up lo fr rr hv) := hD
    refine lv_aload_n (pc := 21) hx hb dX4_drop_21 rfl (lv_at hl 0 rfl) ?_
    refine va_get (D := D) (cl := vwCl) (ci := 4) (v := .int (zi ((n - 1)))) (C := RX4) (T := TX4) (N := 17) (pc := 22) hx hb hT inT4 hown hK.1 hP 0 rfl rfl 0 (by decide) (hT _ tw_337) (fun _ h9 => h9) rfl dX4_drop_22 ?_
    exact wr_iret hx hb hrt hlk dX4_drop_25 hP hS (⟨(n - 1, n - 1), by rw [dropS, if_neg (by assumption)], rfl, rfl⟩)
  · refine z_sipush (pc := 7) hx hb dX4_drop_7 (by decide) ?_
    exact wr_iret hx hb hrt hlk dX4_drop_10 hP hS (⟨(-1003, n), by rw [dropS, if_pos (by assumption)], rfl, rfl⟩)

set_option maxHeartbeats 4000000 in
set_option maxRecDepth 100000 in
theorem c_X4_useHour (D : va_G) (cI cJ : ClassId) (l : Launch) (ad : Nat → Nat) (n : Int) (st hr ca sp : Nat → Int) (k : Int) (ts th : Nat → Int) (pr hc lu ll up lo : Int) (fr rr hv : Nat → Int) (hU : VU n st hr ca) (hsp : ∀ j : Nat, j < 4 → 1 ≤ sp j ∧ sp j ≤ 1000) (z : Int) (u : Nat) (hz : z = (u : Int)) (hu : u < 12) : RD D cI cJ l yX4_useHour cX4_useHour 2 (some .int) 0 0 [.ref (ad 0), .int (zi (z))] (wM ad cI n st hr ca sp k ts th pr hc lu ll up lo fr rr hv) (.int (zi (useZ st hr sp u))) := by
  subst hz
  refine RD.of (by decide) (Nat.le_of_ble_eq_true rfl) ?_
  intro p e s m args below meth c hx hb hrt hml hown hT hlk hK hP ls hl
  replace hl : lv_has ls 2 [(0, .ref (ad 0)), (1, .int (zi ((u : Int))))] := hl
  obtain ⟨hn, hst, hhr, hh1, hca⟩ := id hU
  refine lv_aload_n (pc := 0) hx hb dX4_useHour_0 rfl (lv_at hl 0 rfl) ?_
  refine va_get (D := D) (cl := vwCl) (ci := 4) (v := .ref (ad 2)) (C := RX4) (T := TX4) (N := 17) (pc := 1) hx hb hT inT4 hown hK.1 hP 0 rfl rfl 2 (by decide) (hT _ tw_339) (fun _ h9 => h9) rfl dX4_useHour_1 ?_
  refine lv_iload_n (pc := 4) hx hb dX4_useHour_4 rfl (lv_at hl 1 rfl) ?_
  refine z_iald (pc := 5) hx hb hK hP 2 (u) (f := hr) rfl (by omega) (by omega) (by omega) dX4_useHour_5 ?_
  have r_1 := hhr (u)
  refine lv_aload_n (pc := 6) hx hb dX4_useHour_6 rfl (lv_at hl 0 rfl) ?_
  refine va_get (D := D) (cl := vwCl) (ci := 4) (v := .ref (ad 4)) (C := RX4) (T := TX4) (N := 17) (pc := 7) hx hb hT inT4 hown hK.1 hP 0 rfl rfl 4 (by decide) (hT _ tw_341) (fun _ h9 => h9) rfl dX4_useHour_7 ?_
  refine lv_aload_n (pc := 10) hx hb dX4_useHour_10 rfl (lv_at hl 0 rfl) ?_
  refine va_get (D := D) (cl := vwCl) (ci := 4) (v := .ref (ad 1)) (C := RX4) (T := TX4) (N := 17) (pc := 11) hx hb hT inT4 hown hK.1 hP 0 rfl rfl 1 (by decide) (hT _ tw_338) (fun _ h9 => h9) rfl dX4_useHour_11 ?_
  refine lv_iload_n (pc := 14) hx hb dX4_useHour_14 rfl (lv_at hl 1 rfl) ?_
  refine z_iald (pc := 15) hx hb hK hP 1 (u) (f := st) rfl (by omega) (by omega) (by omega) dX4_useHour_15 ?_
  have r_2 := hst (u)
  refine z_iald (pc := 16) hx hb hK hP 4 (((st (u))).toNat) (f := sp) rfl (by omega) (by omega) (by omega) dX4_useHour_16 ?_
  have r_3 := hsp (((st (u))).toNat) (by omega)
  refine z_imul (pc := 17) hx hb dX4_useHour_17 ?_
  refine z_bipush (pc := 18) hx hb dX4_useHour_18 (by decide) ?_
  refine z_idiv (pc := 20) hx hb (by have h := mul_rng (a := hr u) (b := sp (st u).toNat) (A := 500) (B := 1000) (by omega) (by omega); omega) dX4_useHour_20 ?_
  exact rd_iret hx hb hrt hlk dX4_useHour_21 (rfl)

set_option maxHeartbeats 4000000 in
set_option maxRecDepth 100000 in
theorem c_X4_told (D : va_G) (cI cJ : ClassId) (l : Launch) (ad : Nat → Nat) (n : Int) (st hr ca sp : Nat → Int) (k : Int) (ts th : Nat → Int) (pr hc lu ll up lo : Int) (fr rr hv : Nat → Int) (hU : VU n st hr ca) (hsp : ∀ j : Nat, j < 4 → 1 ≤ sp j ∧ sp j ≤ 1000) (z : Int) (r_z : -2147483648 ≤ z ∧ z ≤ 2147483647) (w : Int) (r_w : -2147483648 ≤ w ∧ w ≤ 2147483647) : RD D cI cJ l yX4_told cX4_told 3 (some .int) 2 46 [.ref (ad 0), .int (zi (z)), .int (zi (w))] (wM ad cI n st hr ca sp k ts th pr hc lu ll up lo fr rr hv) (.int (zi (toldZ n st hr ca sp z w))) := by
  refine RD.of (by decide) (Nat.le_of_ble_eq_true rfl) ?_
  intro p e s m args below meth c hx hb hrt hml hown hT hlk hK hP ls hl
  replace hl : lv_has ls 3 [(0, .ref (ad 0)), (1, .int (zi (z))), (2, .int (zi (w)))] := hl
  obtain ⟨hn, hst, hhr, hh1, hca⟩ := id hU
  refine lv_aload_n (pc := 0) hx hb dX4_told_0 rfl (lv_at hl 0 rfl) ?_
  refine lv_iload_n (pc := 1) hx hb dX4_told_1 rfl (lv_at hl 1 rfl) ?_
  refine rd_V (pc := 2) hx hb hml hown hT hK (c_X4_isUnit D cI cJ l ad n st hr ca sp k ts th pr hc lu ll up lo fr rr hv (by omega) (z) (by omega)) ca_X4_isUnit tw_413 hP 0 4 rfl rfl rfl ⟨Nat.le_of_ble_eq_true rfl, Nat.le_of_ble_eq_true rfl⟩ rfl hl.1 (As := [.int (zi (z))]) (rest := []) rfl (Nat.le_of_ble_eq_true rfl) ⟨Nat.le_of_ble_eq_true rfl, Nat.le_of_ble_eq_true rfl⟩ dX4_told_2 ?_
  refine z_ifB_ne (tgt := 12) (pc := 5) hx hb dX4_told_5 (by decide) (fun c_1 => ?_) (fun c_1 => ?_)
  · refine lv_iload_n (pc := 12) hx hb dX4_told_12 rfl (lv_at hl 2 rfl) ?_
    rcases (show (w < 0 ∨ 3 < w) ∨ w = 0 ∨ w = 1 ∨ w = 2 ∨ w = 3 by omega) with q_2 | q_2 | q_2 | q_2 | q_2
    · refine z_tabOut (tgt := 71) (pc := 13) hx hb dX4_told_13 (by omega) q_2 (by decide) ?_
      refine z_sipush (pc := 71) hx hb dX4_told_71 (by decide) ?_
      exact rd_iret hx hb hrt hlk dX4_told_74 (by unfold toldZ; repeat (first | rw [if_pos (by omega)] | rw [if_neg (by omega)]))
    · refine z_tabIn (tgt := 44) (pc := 13) hx hb (0) dX4_told_13 q_2 (by decide) (by decide) (by decide) rfl (by decide) ?_
      refine lv_aload_n (pc := 44) hx hb dX4_told_44 rfl (lv_at hl 0 rfl) ?_
      refine va_get (D := D) (cl := vwCl) (ci := 4) (v := .ref (ad 1)) (C := RX4) (T := TX4) (N := 17) (pc := 45) hx hb hT inT4 hown hK.1 hP 0 rfl rfl 1 (by decide) (hT _ tw_338) (fun _ h9 => h9) rfl dX4_told_45 ?_
      refine lv_iload_n (pc := 48) hx hb dX4_told_48 rfl (lv_at hl 1 rfl) ?_
      refine z_iald (pc := 49) hx hb hK hP 1 (z.toNat) (f := st) rfl (by omega) (by omega) (by omega) dX4_told_49 ?_
      have r_3 := hst (z.toNat)
      exact rd_iret hx hb hrt hlk dX4_told_50 (by unfold toldZ; repeat (first | rw [if_pos (by omega)] | rw [if_neg (by omega)]))
    · refine z_tabIn (tgt := 51) (pc := 13) hx hb (1) dX4_told_13 q_2 (by decide) (by decide) (by decide) rfl (by decide) ?_
      refine lv_aload_n (pc := 51) hx hb dX4_told_51 rfl (lv_at hl 0 rfl) ?_
      refine va_get (D := D) (cl := vwCl) (ci := 4) (v := .ref (ad 2)) (C := RX4) (T := TX4) (N := 17) (pc := 52) hx hb hT inT4 hown hK.1 hP 0 rfl rfl 2 (by decide) (hT _ tw_339) (fun _ h9 => h9) rfl dX4_told_52 ?_
      refine lv_iload_n (pc := 55) hx hb dX4_told_55 rfl (lv_at hl 1 rfl) ?_
      refine z_iald (pc := 56) hx hb hK hP 2 (z.toNat) (f := hr) rfl (by omega) (by omega) (by omega) dX4_told_56 ?_
      have r_4 := hhr (z.toNat)
      exact rd_iret hx hb hrt hlk dX4_told_57 (by unfold toldZ; repeat (first | rw [if_pos (by omega)] | rw [if_neg (by omega)]))
    · refine z_tabIn (tgt := 58) (pc := 13) hx hb (2) dX4_told_13 q_2 (by decide) (by decide) (by decide) rfl (by decide) ?_
      refine lv_aload_n (pc := 58) hx hb dX4_told_58 rfl (lv_at hl 0 rfl) ?_
      refine va_get (D := D) (cl := vwCl) (ci := 4) (v := .ref (ad 3)) (C := RX4) (T := TX4) (N := 17) (pc := 59) hx hb hT inT4 hown hK.1 hP 0 rfl rfl 3 (by decide) (hT _ tw_340) (fun _ h9 => h9) rfl dX4_told_59 ?_
      refine lv_iload_n (pc := 62) hx hb dX4_told_62 rfl (lv_at hl 1 rfl) ?_
      refine z_iald (pc := 63) hx hb hK hP 3 (z.toNat) (f := ca) rfl (by omega) (by omega) (by omega) dX4_told_63 ?_
      have r_5 := hca (z.toNat)
      exact rd_iret hx hb hrt hlk dX4_told_64 (by unfold toldZ; repeat (first | rw [if_pos (by omega)] | rw [if_neg (by omega)]))
    · refine z_tabIn (tgt := 65) (pc := 13) hx hb (3) dX4_told_13 q_2 (by decide) (by decide) (by decide) rfl (by decide) ?_
      refine lv_aload_n (pc := 65) hx hb dX4_told_65 rfl (lv_at hl 0 rfl) ?_
      refine lv_iload_n (pc := 66) hx hb dX4_told_66 rfl (lv_at hl 1 rfl) ?_
      refine rd_V (pc := 67) hx hb hml hown hT hK (c_X4_useHour D cI cJ l ad n st hr ca sp k ts th pr hc lu ll up lo fr rr hv hU hsp (z) (z.toNat) (by omega) (by omega)) ca_X4_useHour tw_425 hP 0 4 rfl rfl rfl ⟨Nat.le_of_ble_eq_true rfl, Nat.le_of_ble_eq_true rfl⟩ rfl hl.1 (As := [.int (zi (z))]) (rest := []) rfl (Nat.le_of_ble_eq_true rfl) ⟨Nat.le_of_ble_eq_true rfl, Nat.le_of_ble_eq_true rfl⟩ dX4_told_67 ?_
      exact rd_iret hx hb hrt hlk dX4_told_70 (by unfold toldZ; repeat (first | rw [if_pos (by omega)] | rw [if_neg (by omega)]))
  · refine z_sipush (pc := 8) hx hb dX4_told_8 (by decide) ?_
    exact rd_iret hx hb hrt hlk dX4_told_11 (by unfold toldZ; repeat (first | rw [if_pos (by omega)] | rw [if_neg (by omega)]))

set_option maxHeartbeats 4000000 in
set_option maxRecDepth 100000 in
theorem c_X4_isIn (D : va_G) (cI cJ : ClassId) (l : Launch) (ad : Nat → Nat) (n : Int) (st hr ca sp : Nat → Int) (k : Int) (ts th : Nat → Int) (pr hc lu ll up lo : Int) (fr rr hv : Nat → Int) (hU : VU n st hr ca) (z : Int) (u : Nat) (hz : z = (u : Int)) (hu : u < 12) (S : Int) (hS0 : 0 ≤ S ∧ S ≤ 15) : RD D cI cJ l yX4_isIn cX4_isIn 3 (some .boolean) 0 0 [.ref (ad 0), .int (zi (z)), .int (zi (S))] (wM ad cI n st hr ca sp k ts th pr hc lu ll up lo fr rr hv) (.int (bI (bitS S (st u)))) := by
  subst hz
  refine RD.of (by decide) (Nat.le_of_ble_eq_true rfl) ?_
  intro p e s m args below meth c hx hb hrt hml hown hT hlk hK hP ls hl
  replace hl : lv_has ls 3 [(0, .ref (ad 0)), (1, .int (zi ((u : Int)))), (2, .int (zi (S)))] := hl
  obtain ⟨hn, hst, hhr, hh1, hca⟩ := id hU
  refine lv_iload_n (pc := 0) hx hb dX4_isIn_0 rfl (lv_at hl 2 rfl) ?_
  refine lv_aload_n (pc := 1) hx hb dX4_isIn_1 rfl (lv_at hl 0 rfl) ?_
  refine va_get (D := D) (cl := vwCl) (ci := 4) (v := .ref (ad 1)) (C := RX4) (T := TX4) (N := 17) (pc := 2) hx hb hT inT4 hown hK.1 hP 0 rfl rfl 1 (by decide) (hT _ tw_338) (fun _ h9 => h9) rfl dX4_isIn_2 ?_
  refine lv_iload_n (pc := 5) hx hb dX4_isIn_5 rfl (lv_at hl 1 rfl) ?_
  refine z_iald (pc := 6) hx hb hK hP 1 (u) (f := st) rfl (by omega) (by omega) (by omega) dX4_isIn_6 ?_
  have r_1 := hst (u)
  refine z_ishr (pc := 7) hx hb (by omega) dX4_isIn_7 ?_
  refine z_iconst (pc := 8) hx hb dX4_isIn_8 ?_
  refine z_iand1 (pc := 9) hx hb (by have h1 : 0 ≤ S / 2 ^ (st u).toNat := Int.ediv_nonneg (by omega) (Int.pow_nonneg (by omega)); have h2 : S / 2 ^ (st u).toNat ≤ S := Int.ediv_le_self _ (by omega); omega) dX4_isIn_9 ?_
  refine z_iconst (pc := 10) hx hb dX4_isIn_10 ?_
  refine z_icmp_ne (tgt := 18) (pc := 11) hx hb dX4_isIn_11 (by decide) (by omega) (by omega) (fun c_2 => ?_) (fun c_2 => ?_)
  · refine z_iconst (pc := 18) hx hb dX4_isIn_18 ?_
    exact rd_zret hx hb hrt hlk dX4_isIn_19 (bI0 (by assumption))
  · refine z_iconst (pc := 14) hx hb dX4_isIn_14 ?_
    refine lv_goto (tgt := 19) (pc := 15) hx hb dX4_isIn_15 (by decide) ?_
    exact rd_zret hx hb hrt hlk dX4_isIn_19 (bI1 (by assumption))

set_option maxHeartbeats 4000000 in
set_option maxRecDepth 100000 in
theorem c_X4_count (D : va_G) (cI cJ : ClassId) (l : Launch) (ad : Nat → Nat) (n : Int) (st hr ca sp : Nat → Int) (k : Int) (ts th : Nat → Int) (pr hc lu ll up lo : Int) (fr rr hv : Nat → Int) (hU : VU n st hr ca) (hsp : ∀ j : Nat, j < 4 → 1 ≤ sp j ∧ sp j ≤ 1000) (S : Int) (r_S : -2147483648 ≤ S ∧ S ≤ 2147483647) (w : Int) (r_w : -2147483648 ≤ w ∧ w ≤ 2147483647) : RD D cI cJ l yX4_count cX4_count 7 (some .int) 2 45 [.ref (ad 0), .int (zi (S)), .int (zi (w))] (wM ad cI n st hr ca sp k ts th pr hc lu ll up lo fr rr hv) (.int (zi (countZ n st hr ca sp S w))) := by
  refine RD.of (by decide) (Nat.le_of_ble_eq_true rfl) ?_
  intro p e s m args below meth c hx hb hrt hml hown hT hlk hK hP ls hl
  replace hl : lv_has ls 7 [(0, .ref (ad 0)), (1, .int (zi (S))), (2, .int (zi (w)))] := hl
  obtain ⟨hn, hst, hhr, hh1, hca⟩ := id hU
  have loop : ∀ u : Nat, u ≤ n.toNat → ∀ (z1 z2 : Int), (z1 = cCt st hr ca sp S w u) → (z2 = (u : Int)) → ((0 ≤ S ∧ S ≤ 15) ∧ (0 ≤ w ∧ w ≤ 7)) → ∀ ls : Array Slot, lv_has ls 7 [(0, .ref (ad 0)), (1, .int (zi (S))), (2, .int (zi (w))), (3, .int (zi (z1))), (4, .int (zi (z2)))] → W p l e (RM 2 45) s m args below meth c s.heap [] 0 0 (MQ below (QR (.int (zi (countZ n st hr ca sp S w))) s.heap) args s 0 0 (fun _ => False)) (F0 m 28 ls []) := by
    refine lp_up (fun u => ∀ (z1 z2 : Int), (z1 = cCt st hr ca sp S w u) → (z2 = (u : Int)) → ((0 ≤ S ∧ S ≤ 15) ∧ (0 ≤ w ∧ w ≤ 7)) → ∀ ls : Array Slot, lv_has ls 7 [(0, .ref (ad 0)), (1, .int (zi (S))), (2, .int (zi (w))), (3, .int (zi (z1))), (4, .int (zi (z2)))] → W p l e (RM 2 45) s m args below meth c s.heap [] 0 0 (MQ below (QR (.int (zi (countZ n st hr ca sp S w))) s.heap) args s 0 0 (fun _ => False)) (F0 m 28 ls [])) (n.toNat) ?_ ?_
    · intro z1 z2 e1 e2 e3 ls hl
      refine lv_iload (pc := 28) hx hb dX4_count_28 (lv_at hl 4 rfl) ?_
      refine lv_aload_n (pc := 30) hx hb dX4_count_30 rfl (lv_at hl 0 rfl) ?_
      refine va_get (D := D) (cl := vwCl) (ci := 4) (v := .int (zi (n))) (C := RX4) (T := TX4) (N := 17) (pc := 31) hx hb hT inT4 hown hK.1 hP 0 rfl rfl 0 (by decide) (hT _ tw_337) (fun _ h9 => h9) rfl dX4_count_31 ?_
      refine z_icmp_ge (tgt := 156) (pc := 34) hx hb dX4_count_34 (by decide) (by omega) (by omega) (fun c_1 => ?_) (fun c_1 => absurd c_1 (by omega))
      refine lv_iload_n (pc := 156) hx hb dX4_count_156 rfl (lv_at hl 3 rfl) ?_
      exact rd_iret hx hb hrt hlk dX4_count_157 (by rw [countZ, if_pos e3, e1])
    · intro u hu ih z1 z2 e1 e2 e3 ls hl
      refine lv_iload (pc := 28) hx hb dX4_count_28 (lv_at hl 4 rfl) ?_
      refine lv_aload_n (pc := 30) hx hb dX4_count_30 rfl (lv_at hl 0 rfl) ?_
      refine va_get (D := D) (cl := vwCl) (ci := 4) (v := .int (zi (n))) (C := RX4) (T := TX4) (N := 17) (pc := 31) hx hb hT inT4 hown hK.1 hP 0 rfl rfl 0 (by decide) (hT _ tw_337) (fun _ h9 => h9) rfl dX4_count_31 ?_
      refine z_icmp_ge (tgt := 156) (pc := 34) hx hb dX4_count_34 (by decide) (by omega) (by omega) (fun c_2 => absurd c_2 (by omega)) (fun c_2 => ?_)
      refine lv_aload_n (pc := 37) hx hb dX4_count_37 rfl (lv_at hl 0 rfl) ?_
      refine lv_iload (pc := 38) hx hb dX4_count_38 (lv_at hl 4 rfl) ?_
      refine lv_iload_n (pc := 40) hx hb dX4_count_40 rfl (lv_at hl 1 rfl) ?_
      refine rd_V (pc := 41) hx hb hml hown hT hK (c_X4_isIn D cI cJ l ad n st hr ca sp k ts th pr hc lu ll up lo fr rr hv hU (z2) u (by omega) (by omega) (S) (by omega)) ca_X4_isIn tw_438 hP 0 4 rfl rfl rfl ⟨Nat.le_of_ble_eq_true rfl, Nat.le_of_ble_eq_true rfl⟩ rfl hl.1 (As := [.int (zi (z2)), .int (zi (S))]) (rest := []) rfl (Nat.le_of_ble_eq_true rfl) ⟨Nat.le_of_ble_eq_true rfl, Nat.le_of_ble_eq_true rfl⟩ dX4_count_41 ?_
      refine z_ifB_eq (tgt := 150) (pc := 44) hx hb dX4_count_44 (by decide) (fun c_3 => ?_) (fun c_3 => ?_)
      · refine lv_iinc (v := zi (z2 + 1)) (lv' := [(4, .int (zi ((z2 + 1)))), (0, .ref (ad 0)), (1, .int (zi (S))), (2, .int (zi (w))), (3, .int (zi (z1)))]) (pc := 150) hx hb dX4_count_150 hl (k := 4) rfl (zi_add _ _) (by decide) rfl (fun ls hl => ?_)
        refine lv_goto (tgt := 28) (pc := 153) hx hb dX4_count_153 (by decide) ?_
        exact ih  _ _ (by simp only [cCt]; rw [e1, if_neg (by assumption)]; omega) (by rw [e2]; rfl) (e3) ls (lv_sub hl [1, 2, 3, 4, 0] rfl)
      · refine lv_aload_n (pc := 47) hx hb dX4_count_47 rfl (lv_at hl 0 rfl) ?_
        refine va_get (D := D) (cl := vwCl) (ci := 4) (v := .ref (ad 3)) (C := RX4) (T := TX4) (N := 17) (pc := 48) hx hb hT inT4 hown hK.1 hP 0 rfl rfl 3 (by decide) (hT _ tw_340) (fun _ h9 => h9) rfl dX4_count_48 ?_
        refine lv_iload (pc := 51) hx hb dX4_count_51 (lv_at hl 4 rfl) ?_
        refine z_iald (pc := 53) hx hb hK hP 3 (u) (f := ca) rfl (by omega) (by omega) (by omega) dX4_count_53 ?_
        have r_4 := hca (u)
        refine lv_istore (lv' := [(5, .int (zi ((ca (u))))), (0, .ref (ad 0)), (1, .int (zi (S))), (2, .int (zi (w))), (3, .int (zi (z1))), (4, .int (zi (z2)))]) (pc := 54) hx hb dX4_count_54 hl (by decide) rfl (fun ls hl => ?_)
        refine lv_iload_n (pc := 56) hx hb dX4_count_56 rfl (lv_at hl 3 rfl) ?_
        refine z_if_eq (tgt := 99) (pc := 57) hx hb dX4_count_57 (by decide) (by omega) (fun c_5 => ?_) (fun c_5 => ?_)
        · refine z_iconst (pc := 99) hx hb dX4_count_99 ?_
          refine lv_goto (tgt := 104) (pc := 100) hx hb dX4_count_100 (by decide) ?_
          refine lv_istore (lv' := [(6, .int (zi (1))), (5, .int (zi ((ca (u))))), (0, .ref (ad 0)), (1, .int (zi (S))), (2, .int (zi (w))), (3, .int (zi (z1))), (4, .int (zi (z2)))]) (pc := 104) hx hb dX4_count_104 hl (by decide) rfl (fun ls hl => ?_)
          refine lv_iload_n (pc := 106) hx hb dX4_count_106 rfl (lv_at hl 5 rfl) ?_
          refine lv_iload_n (pc := 107) hx hb dX4_count_107 rfl (lv_at hl 4 rfl) ?_
          refine z_bipush (pc := 108) hx hb dX4_count_108 (by decide) ?_
          refine z_icmp_ne (tgt := 123) (pc := 110) hx hb dX4_count_110 (by decide) (by omega) (by omega) (fun c_6 => ?_) (fun c_6 => ?_)
          · refine lv_iload_n (pc := 123) hx hb dX4_count_123 rfl (lv_at hl 4 rfl) ?_
            refine z_bipush (pc := 124) hx hb dX4_count_124 (by decide) ?_
            refine z_icmp_ne (tgt := 138) (pc := 126) hx hb dX4_count_126 (by decide) (by omega) (by omega) (fun c_7 => ?_) (fun c_7 => ?_)
            · refine lv_iload (pc := 138) hx hb dX4_count_138 (lv_at hl 0 rfl) ?_
              refine z_if_eq (tgt := 147) (pc := 140) hx hb dX4_count_140 (by decide) (by omega) (fun c_8 => ?_) (fun c_8 => ?_)
              · refine z_iconst (pc := 147) hx hb dX4_count_147 ?_
                refine z_iadd (pc := 148) hx hb dX4_count_148 ?_
                refine lv_istore_n (lv' := [(3, .int (zi ((z1 + 0)))), (6, .int (zi (1))), (5, .int (zi ((ca (u))))), (0, .ref (ad 0)), (1, .int (zi (S))), (2, .int (zi (w))), (4, .int (zi (z2)))]) (pc := 149) hx hb dX4_count_149 rfl hl (by decide) rfl (fun ls hl => ?_)
                refine lv_iinc (v := zi (z2 + 1)) (lv' := [(4, .int (zi ((z2 + 1)))), (3, .int (zi ((z1 + 0)))), (6, .int (zi (1))), (5, .int (zi ((ca (u))))), (0, .ref (ad 0)), (1, .int (zi (S))), (2, .int (zi (w)))]) (pc := 150) hx hb dX4_count_150 hl (k := 6) rfl (zi_add _ _) (by decide) rfl (fun ls hl => ?_)
                refine lv_goto (tgt := 28) (pc := 153) hx hb dX4_count_153 (by decide) ?_
                exact ih  _ _ (by first | (exfalso; omega) | (simp only [cCt]; rw [e1, if_pos (by assumption)]; unfold shareZ; repeat (first | rw [if_pos (by omega)] | rw [if_neg (by omega)]))) (by rw [e2]; rfl) (e3) ls (lv_sub hl [4, 5, 6, 1, 0] rfl)
              · refine z_iconst (pc := 143) hx hb dX4_count_143 ?_
                refine lv_goto (tgt := 148) (pc := 144) hx hb dX4_count_144 (by decide) ?_
                refine z_iadd (pc := 148) hx hb dX4_count_148 ?_
                refine lv_istore_n (lv' := [(3, .int (zi ((z1 + 1)))), (6, .int (zi (1))), (5, .int (zi ((ca (u))))), (0, .ref (ad 0)), (1, .int (zi (S))), (2, .int (zi (w))), (4, .int (zi (z2)))]) (pc := 149) hx hb dX4_count_149 rfl hl (by decide) rfl (fun ls hl => ?_)
                refine lv_iinc (v := zi (z2 + 1)) (lv' := [(4, .int (zi ((z2 + 1)))), (3, .int (zi ((z1 + 1)))), (6, .int (zi (1))), (5, .int (zi ((ca (u))))), (0, .ref (ad 0)), (1, .int (zi (S))), (2, .int (zi (w)))]) (pc := 150) hx hb dX4_count_150 hl (k := 6) rfl (zi_add _ _) (by decide) rfl (fun ls hl => ?_)
                refine lv_goto (tgt := 28) (pc := 153) hx hb dX4_count_153 (by decide) ?_
                exact ih  _ _ (by first | (exfalso; omega) | (simp only [cCt]; rw [e1, if_pos (by assumption)]; unfold shareZ; repeat (first | rw [if_pos (by omega)] | rw [if_neg (by omega)]))) (by rw [e2]; rfl) (e3) ls (lv_sub hl [4, 5, 6, 1, 0] rfl)
            · refine lv_aload_n (pc := 129) hx hb dX4_count_129 rfl (lv_at hl 2 rfl) ?_
              refine lv_iload (pc := 130) hx hb dX4_count_130 (lv_at hl 6 rfl) ?_
              refine rd_V (pc := 132) hx hb hml hown hT hK (c_X4_useHour D cI cJ l ad n st hr ca sp k ts th pr hc lu ll up lo fr rr hv hU hsp (z2) (u) (by omega) (by omega)) ca_X4_useHour tw_425 hP 0 4 rfl rfl rfl ⟨Nat.le_of_ble_eq_true rfl, Nat.le_of_ble_eq_true rfl⟩ rfl hl.1 (As := [.int (zi (z2))]) (rest := [.int (zi (z1))]) rfl (Nat.le_of_ble_eq_true rfl) ⟨Nat.le_of_ble_eq_true rfl, Nat.le_of_ble_eq_true rfl⟩ dX4_count_132 ?_
              refine lv_goto (tgt := 148) (pc := 135) hx hb dX4_count_135 (by decide) ?_
              refine z_iadd (pc := 148) hx hb dX4_count_148 ?_
              refine lv_istore_n (lv' := [(3, .int (zi ((z1 + (useZ st hr sp (u)))))), (6, .int (zi (1))), (5, .int (zi ((ca (u))))), (0, .ref (ad 0)), (1, .int (zi (S))), (2, .int (zi (w))), (4, .int (zi (z2)))]) (pc := 149) hx hb dX4_count_149 rfl hl (by decide) rfl (fun ls hl => ?_)
              refine lv_iinc (v := zi (z2 + 1)) (lv' := [(4, .int (zi ((z2 + 1)))), (3, .int (zi ((z1 + (useZ st hr sp (u)))))), (6, .int (zi (1))), (5, .int (zi ((ca (u))))), (0, .ref (ad 0)), (1, .int (zi (S))), (2, .int (zi (w)))]) (pc := 150) hx hb dX4_count_150 hl (k := 6) rfl (zi_add _ _) (by decide) rfl (fun ls hl => ?_)
              refine lv_goto (tgt := 28) (pc := 153) hx hb dX4_count_153 (by decide) ?_
              exact ih  _ _ (by first | (exfalso; omega) | (simp only [cCt]; rw [e1, if_pos (by assumption)]; unfold shareZ; repeat (first | rw [if_pos (by omega)] | rw [if_neg (by omega)]))) (by rw [e2]; rfl) (e3) ls (lv_sub hl [4, 5, 6, 1, 0] rfl)
          · refine lv_aload_n (pc := 113) hx hb dX4_count_113 rfl (lv_at hl 2 rfl) ?_
            refine va_get (D := D) (cl := vwCl) (ci := 4) (v := .ref (ad 2)) (C := RX4) (T := TX4) (N := 17) (pc := 114) hx hb hT inT4 hown hK.1 hP 0 rfl rfl 2 (by decide) (hT _ tw_339) (fun _ h9 => h9) rfl dX4_count_114 ?_
            refine lv_iload (pc := 117) hx hb dX4_count_117 (lv_at hl 6 rfl) ?_
            refine z_iald (pc := 119) hx hb hK hP 2 (u) (f := hr) rfl (by omega) (by omega) (by omega) dX4_count_119 ?_
            have r_9 := hhr (u)
            refine lv_goto (tgt := 148) (pc := 120) hx hb dX4_count_120 (by decide) ?_
            refine z_iadd (pc := 148) hx hb dX4_count_148 ?_
            refine lv_istore_n (lv' := [(3, .int (zi ((z1 + (hr (u)))))), (6, .int (zi (1))), (5, .int (zi ((ca (u))))), (0, .ref (ad 0)), (1, .int (zi (S))), (2, .int (zi (w))), (4, .int (zi (z2)))]) (pc := 149) hx hb dX4_count_149 rfl hl (by decide) rfl (fun ls hl => ?_)
            refine lv_iinc (v := zi (z2 + 1)) (lv' := [(4, .int (zi ((z2 + 1)))), (3, .int (zi ((z1 + (hr (u)))))), (6, .int (zi (1))), (5, .int (zi ((ca (u))))), (0, .ref (ad 0)), (1, .int (zi (S))), (2, .int (zi (w)))]) (pc := 150) hx hb dX4_count_150 hl (k := 6) rfl (zi_add _ _) (by decide) rfl (fun ls hl => ?_)
            refine lv_goto (tgt := 28) (pc := 153) hx hb dX4_count_153 (by decide) ?_
            exact ih  _ _ (by first | (exfalso; omega) | (simp only [cCt]; rw [e1, if_pos (by assumption)]; unfold shareZ; repeat (first | rw [if_pos (by omega)] | rw [if_neg (by omega)]))) (by rw [e2]; rfl) (e3) ls (lv_sub hl [4, 5, 6, 1, 0] rfl)
        · refine lv_iload_n (pc := 60) hx hb dX4_count_60 rfl (lv_at hl 3 rfl) ?_
          refine z_iconst (pc := 61) hx hb dX4_count_61 ?_
          refine z_icmp_ne (tgt := 70) (pc := 62) hx hb dX4_count_62 (by decide) (by omega) (by omega) (fun c_10 => ?_) (fun c_10 => ?_)
          · refine lv_iload_n (pc := 70) hx hb dX4_count_70 rfl (lv_at hl 3 rfl) ?_
            refine z_iconst (pc := 71) hx hb dX4_count_71 ?_
            refine z_icmp_ne (tgt := 80) (pc := 72) hx hb dX4_count_72 (by decide) (by omega) (by omega) (fun c_11 => ?_) (fun c_11 => ?_)
            · refine lv_iload_n (pc := 80) hx hb dX4_count_80 rfl (lv_at hl 3 rfl) ?_
              refine z_bipush (pc := 81) hx hb dX4_count_81 (by decide) ?_
              refine z_icmp_ge (tgt := 103) (pc := 83) hx hb dX4_count_83 (by decide) (by omega) (by omega) (fun c_12 => ?_) (fun c_12 => ?_)
              · refine z_iconst (pc := 103) hx hb dX4_count_103 ?_
                refine lv_istore (lv' := [(6, .int (zi (0))), (5, .int (zi ((ca (u))))), (0, .ref (ad 0)), (1, .int (zi (S))), (2, .int (zi (w))), (3, .int (zi (z1))), (4, .int (zi (z2)))]) (pc := 104) hx hb dX4_count_104 hl (by decide) rfl (fun ls hl => ?_)
                refine lv_iload_n (pc := 106) hx hb dX4_count_106 rfl (lv_at hl 5 rfl) ?_
                refine lv_iload_n (pc := 107) hx hb dX4_count_107 rfl (lv_at hl 4 rfl) ?_
                refine z_bipush (pc := 108) hx hb dX4_count_108 (by decide) ?_
                refine z_icmp_ne (tgt := 123) (pc := 110) hx hb dX4_count_110 (by decide) (by omega) (by omega) (fun c_13 => ?_) (fun c_13 => ?_)
                · refine lv_iload_n (pc := 123) hx hb dX4_count_123 rfl (lv_at hl 4 rfl) ?_
                  refine z_bipush (pc := 124) hx hb dX4_count_124 (by decide) ?_
                  refine z_icmp_ne (tgt := 138) (pc := 126) hx hb dX4_count_126 (by decide) (by omega) (by omega) (fun c_14 => ?_) (fun c_14 => ?_)
                  · refine lv_iload (pc := 138) hx hb dX4_count_138 (lv_at hl 0 rfl) ?_
                    refine z_if_eq (tgt := 147) (pc := 140) hx hb dX4_count_140 (by decide) (by omega) (fun c_15 => ?_) (fun c_15 => ?_)
                    · refine z_iconst (pc := 147) hx hb dX4_count_147 ?_
                      refine z_iadd (pc := 148) hx hb dX4_count_148 ?_
                      refine lv_istore_n (lv' := [(3, .int (zi ((z1 + 0)))), (6, .int (zi (0))), (5, .int (zi ((ca (u))))), (0, .ref (ad 0)), (1, .int (zi (S))), (2, .int (zi (w))), (4, .int (zi (z2)))]) (pc := 149) hx hb dX4_count_149 rfl hl (by decide) rfl (fun ls hl => ?_)
                      refine lv_iinc (v := zi (z2 + 1)) (lv' := [(4, .int (zi ((z2 + 1)))), (3, .int (zi ((z1 + 0)))), (6, .int (zi (0))), (5, .int (zi ((ca (u))))), (0, .ref (ad 0)), (1, .int (zi (S))), (2, .int (zi (w)))]) (pc := 150) hx hb dX4_count_150 hl (k := 6) rfl (zi_add _ _) (by decide) rfl (fun ls hl => ?_)
                      refine lv_goto (tgt := 28) (pc := 153) hx hb dX4_count_153 (by decide) ?_
                      exact ih  _ _ (by first | (exfalso; omega) | (simp only [cCt]; rw [e1, if_pos (by assumption)]; unfold shareZ; repeat (first | rw [if_pos (by omega)] | rw [if_neg (by omega)]))) (by rw [e2]; rfl) (e3) ls (lv_sub hl [4, 5, 6, 1, 0] rfl)
                    · refine z_iconst (pc := 143) hx hb dX4_count_143 ?_
                      refine lv_goto (tgt := 148) (pc := 144) hx hb dX4_count_144 (by decide) ?_
                      refine z_iadd (pc := 148) hx hb dX4_count_148 ?_
                      refine lv_istore_n (lv' := [(3, .int (zi ((z1 + 1)))), (6, .int (zi (0))), (5, .int (zi ((ca (u))))), (0, .ref (ad 0)), (1, .int (zi (S))), (2, .int (zi (w))), (4, .int (zi (z2)))]) (pc := 149) hx hb dX4_count_149 rfl hl (by decide) rfl (fun ls hl => ?_)
                      refine lv_iinc (v := zi (z2 + 1)) (lv' := [(4, .int (zi ((z2 + 1)))), (3, .int (zi ((z1 + 1)))), (6, .int (zi (0))), (5, .int (zi ((ca (u))))), (0, .ref (ad 0)), (1, .int (zi (S))), (2, .int (zi (w)))]) (pc := 150) hx hb dX4_count_150 hl (k := 6) rfl (zi_add _ _) (by decide) rfl (fun ls hl => ?_)
                      refine lv_goto (tgt := 28) (pc := 153) hx hb dX4_count_153 (by decide) ?_
                      exact ih  _ _ (by first | (exfalso; omega) | (simp only [cCt]; rw [e1, if_pos (by assumption)]; unfold shareZ; repeat (first | rw [if_pos (by omega)] | rw [if_neg (by omega)]))) (by rw [e2]; rfl) (e3) ls (lv_sub hl [4, 5, 6, 1, 0] rfl)
                  · refine lv_aload_n (pc := 129) hx hb dX4_count_129 rfl (lv_at hl 2 rfl) ?_
                    refine lv_iload (pc := 130) hx hb dX4_count_130 (lv_at hl 6 rfl) ?_
                    refine rd_V (pc := 132) hx hb hml hown hT hK (c_X4_useHour D cI cJ l ad n st hr ca sp k ts th pr hc lu ll up lo fr rr hv hU hsp (z2) (u) (by omega) (by omega)) ca_X4_useHour tw_425 hP 0 4 rfl rfl rfl ⟨Nat.le_of_ble_eq_true rfl, Nat.le_of_ble_eq_true rfl⟩ rfl hl.1 (As := [.int (zi (z2))]) (rest := [.int (zi (z1))]) rfl (Nat.le_of_ble_eq_true rfl) ⟨Nat.le_of_ble_eq_true rfl, Nat.le_of_ble_eq_true rfl⟩ dX4_count_132 ?_
                    refine lv_goto (tgt := 148) (pc := 135) hx hb dX4_count_135 (by decide) ?_
                    refine z_iadd (pc := 148) hx hb dX4_count_148 ?_
                    refine lv_istore_n (lv' := [(3, .int (zi ((z1 + (useZ st hr sp (u)))))), (6, .int (zi (0))), (5, .int (zi ((ca (u))))), (0, .ref (ad 0)), (1, .int (zi (S))), (2, .int (zi (w))), (4, .int (zi (z2)))]) (pc := 149) hx hb dX4_count_149 rfl hl (by decide) rfl (fun ls hl => ?_)
                    refine lv_iinc (v := zi (z2 + 1)) (lv' := [(4, .int (zi ((z2 + 1)))), (3, .int (zi ((z1 + (useZ st hr sp (u)))))), (6, .int (zi (0))), (5, .int (zi ((ca (u))))), (0, .ref (ad 0)), (1, .int (zi (S))), (2, .int (zi (w)))]) (pc := 150) hx hb dX4_count_150 hl (k := 6) rfl (zi_add _ _) (by decide) rfl (fun ls hl => ?_)
                    refine lv_goto (tgt := 28) (pc := 153) hx hb dX4_count_153 (by decide) ?_
                    exact ih  _ _ (by first | (exfalso; omega) | (simp only [cCt]; rw [e1, if_pos (by assumption)]; unfold shareZ; repeat (first | rw [if_pos (by omega)] | rw [if_neg (by omega)]))) (by rw [e2]; rfl) (e3) ls (lv_sub hl [4, 5, 6, 1, 0] rfl)
                · refine lv_aload_n (pc := 113) hx hb dX4_count_113 rfl (lv_at hl 2 rfl) ?_
                  refine va_get (D := D) (cl := vwCl) (ci := 4) (v := .ref (ad 2)) (C := RX4) (T := TX4) (N := 17) (pc := 114) hx hb hT inT4 hown hK.1 hP 0 rfl rfl 2 (by decide) (hT _ tw_339) (fun _ h9 => h9) rfl dX4_count_114 ?_
                  refine lv_iload (pc := 117) hx hb dX4_count_117 (lv_at hl 6 rfl) ?_
                  refine z_iald (pc := 119) hx hb hK hP 2 (u) (f := hr) rfl (by omega) (by omega) (by omega) dX4_count_119 ?_
                  have r_16 := hhr (u)
                  refine lv_goto (tgt := 148) (pc := 120) hx hb dX4_count_120 (by decide) ?_
                  refine z_iadd (pc := 148) hx hb dX4_count_148 ?_
                  refine lv_istore_n (lv' := [(3, .int (zi ((z1 + (hr (u)))))), (6, .int (zi (0))), (5, .int (zi ((ca (u))))), (0, .ref (ad 0)), (1, .int (zi (S))), (2, .int (zi (w))), (4, .int (zi (z2)))]) (pc := 149) hx hb dX4_count_149 rfl hl (by decide) rfl (fun ls hl => ?_)
                  refine lv_iinc (v := zi (z2 + 1)) (lv' := [(4, .int (zi ((z2 + 1)))), (3, .int (zi ((z1 + (hr (u)))))), (6, .int (zi (0))), (5, .int (zi ((ca (u))))), (0, .ref (ad 0)), (1, .int (zi (S))), (2, .int (zi (w)))]) (pc := 150) hx hb dX4_count_150 hl (k := 6) rfl (zi_add _ _) (by decide) rfl (fun ls hl => ?_)
                  refine lv_goto (tgt := 28) (pc := 153) hx hb dX4_count_153 (by decide) ?_
                  exact ih  _ _ (by first | (exfalso; omega) | (simp only [cCt]; rw [e1, if_pos (by assumption)]; unfold shareZ; repeat (first | rw [if_pos (by omega)] | rw [if_neg (by omega)]))) (by rw [e2]; rfl) (e3) ls (lv_sub hl [4, 5, 6, 1, 0] rfl)
              · refine lv_iload_n (pc := 86) hx hb dX4_count_86 rfl (lv_at hl 3 rfl) ?_
                refine z_iconst (pc := 87) hx hb dX4_count_87 ?_
                refine z_icmp_le (tgt := 103) (pc := 88) hx hb dX4_count_88 (by decide) (by omega) (by omega) (fun c_17 => ?_) (fun c_17 => ?_)
                · refine z_iconst (pc := 103) hx hb dX4_count_103 ?_
                  refine lv_istore (lv' := [(6, .int (zi (0))), (5, .int (zi ((ca (u))))), (0, .ref (ad 0)), (1, .int (zi (S))), (2, .int (zi (w))), (3, .int (zi (z1))), (4, .int (zi (z2)))]) (pc := 104) hx hb dX4_count_104 hl (by decide) rfl (fun ls hl => ?_)
                  refine lv_iload_n (pc := 106) hx hb dX4_count_106 rfl (lv_at hl 5 rfl) ?_
                  refine lv_iload_n (pc := 107) hx hb dX4_count_107 rfl (lv_at hl 4 rfl) ?_
                  refine z_bipush (pc := 108) hx hb dX4_count_108 (by decide) ?_
                  refine z_icmp_ne (tgt := 123) (pc := 110) hx hb dX4_count_110 (by decide) (by omega) (by omega) (fun c_18 => ?_) (fun c_18 => ?_)
                  · refine lv_iload_n (pc := 123) hx hb dX4_count_123 rfl (lv_at hl 4 rfl) ?_
                    refine z_bipush (pc := 124) hx hb dX4_count_124 (by decide) ?_
                    refine z_icmp_ne (tgt := 138) (pc := 126) hx hb dX4_count_126 (by decide) (by omega) (by omega) (fun c_19 => ?_) (fun c_19 => ?_)
                    · refine lv_iload (pc := 138) hx hb dX4_count_138 (lv_at hl 0 rfl) ?_
                      refine z_if_eq (tgt := 147) (pc := 140) hx hb dX4_count_140 (by decide) (by omega) (fun c_20 => ?_) (fun c_20 => ?_)
                      · refine z_iconst (pc := 147) hx hb dX4_count_147 ?_
                        refine z_iadd (pc := 148) hx hb dX4_count_148 ?_
                        refine lv_istore_n (lv' := [(3, .int (zi ((z1 + 0)))), (6, .int (zi (0))), (5, .int (zi ((ca (u))))), (0, .ref (ad 0)), (1, .int (zi (S))), (2, .int (zi (w))), (4, .int (zi (z2)))]) (pc := 149) hx hb dX4_count_149 rfl hl (by decide) rfl (fun ls hl => ?_)
                        refine lv_iinc (v := zi (z2 + 1)) (lv' := [(4, .int (zi ((z2 + 1)))), (3, .int (zi ((z1 + 0)))), (6, .int (zi (0))), (5, .int (zi ((ca (u))))), (0, .ref (ad 0)), (1, .int (zi (S))), (2, .int (zi (w)))]) (pc := 150) hx hb dX4_count_150 hl (k := 6) rfl (zi_add _ _) (by decide) rfl (fun ls hl => ?_)
                        refine lv_goto (tgt := 28) (pc := 153) hx hb dX4_count_153 (by decide) ?_
                        exact ih  _ _ (by first | (exfalso; omega) | (simp only [cCt]; rw [e1, if_pos (by assumption)]; unfold shareZ; repeat (first | rw [if_pos (by omega)] | rw [if_neg (by omega)]))) (by rw [e2]; rfl) (e3) ls (lv_sub hl [4, 5, 6, 1, 0] rfl)
                      · refine z_iconst (pc := 143) hx hb dX4_count_143 ?_
                        refine lv_goto (tgt := 148) (pc := 144) hx hb dX4_count_144 (by decide) ?_
                        refine z_iadd (pc := 148) hx hb dX4_count_148 ?_
                        refine lv_istore_n (lv' := [(3, .int (zi ((z1 + 1)))), (6, .int (zi (0))), (5, .int (zi ((ca (u))))), (0, .ref (ad 0)), (1, .int (zi (S))), (2, .int (zi (w))), (4, .int (zi (z2)))]) (pc := 149) hx hb dX4_count_149 rfl hl (by decide) rfl (fun ls hl => ?_)
                        refine lv_iinc (v := zi (z2 + 1)) (lv' := [(4, .int (zi ((z2 + 1)))), (3, .int (zi ((z1 + 1)))), (6, .int (zi (0))), (5, .int (zi ((ca (u))))), (0, .ref (ad 0)), (1, .int (zi (S))), (2, .int (zi (w)))]) (pc := 150) hx hb dX4_count_150 hl (k := 6) rfl (zi_add _ _) (by decide) rfl (fun ls hl => ?_)
                        refine lv_goto (tgt := 28) (pc := 153) hx hb dX4_count_153 (by decide) ?_
                        exact ih  _ _ (by first | (exfalso; omega) | (simp only [cCt]; rw [e1, if_pos (by assumption)]; unfold shareZ; repeat (first | rw [if_pos (by omega)] | rw [if_neg (by omega)]))) (by rw [e2]; rfl) (e3) ls (lv_sub hl [4, 5, 6, 1, 0] rfl)
                    · refine lv_aload_n (pc := 129) hx hb dX4_count_129 rfl (lv_at hl 2 rfl) ?_
                      refine lv_iload (pc := 130) hx hb dX4_count_130 (lv_at hl 6 rfl) ?_
                      refine rd_V (pc := 132) hx hb hml hown hT hK (c_X4_useHour D cI cJ l ad n st hr ca sp k ts th pr hc lu ll up lo fr rr hv hU hsp (z2) (u) (by omega) (by omega)) ca_X4_useHour tw_425 hP 0 4 rfl rfl rfl ⟨Nat.le_of_ble_eq_true rfl, Nat.le_of_ble_eq_true rfl⟩ rfl hl.1 (As := [.int (zi (z2))]) (rest := [.int (zi (z1))]) rfl (Nat.le_of_ble_eq_true rfl) ⟨Nat.le_of_ble_eq_true rfl, Nat.le_of_ble_eq_true rfl⟩ dX4_count_132 ?_
                      refine lv_goto (tgt := 148) (pc := 135) hx hb dX4_count_135 (by decide) ?_
                      refine z_iadd (pc := 148) hx hb dX4_count_148 ?_
                      refine lv_istore_n (lv' := [(3, .int (zi ((z1 + (useZ st hr sp (u)))))), (6, .int (zi (0))), (5, .int (zi ((ca (u))))), (0, .ref (ad 0)), (1, .int (zi (S))), (2, .int (zi (w))), (4, .int (zi (z2)))]) (pc := 149) hx hb dX4_count_149 rfl hl (by decide) rfl (fun ls hl => ?_)
                      refine lv_iinc (v := zi (z2 + 1)) (lv' := [(4, .int (zi ((z2 + 1)))), (3, .int (zi ((z1 + (useZ st hr sp (u)))))), (6, .int (zi (0))), (5, .int (zi ((ca (u))))), (0, .ref (ad 0)), (1, .int (zi (S))), (2, .int (zi (w)))]) (pc := 150) hx hb dX4_count_150 hl (k := 6) rfl (zi_add _ _) (by decide) rfl (fun ls hl => ?_)
                      refine lv_goto (tgt := 28) (pc := 153) hx hb dX4_count_153 (by decide) ?_
                      exact ih  _ _ (by first | (exfalso; omega) | (simp only [cCt]; rw [e1, if_pos (by assumption)]; unfold shareZ; repeat (first | rw [if_pos (by omega)] | rw [if_neg (by omega)]))) (by rw [e2]; rfl) (e3) ls (lv_sub hl [4, 5, 6, 1, 0] rfl)
                  · refine lv_aload_n (pc := 113) hx hb dX4_count_113 rfl (lv_at hl 2 rfl) ?_
                    refine va_get (D := D) (cl := vwCl) (ci := 4) (v := .ref (ad 2)) (C := RX4) (T := TX4) (N := 17) (pc := 114) hx hb hT inT4 hown hK.1 hP 0 rfl rfl 2 (by decide) (hT _ tw_339) (fun _ h9 => h9) rfl dX4_count_114 ?_
                    refine lv_iload (pc := 117) hx hb dX4_count_117 (lv_at hl 6 rfl) ?_
                    refine z_iald (pc := 119) hx hb hK hP 2 (u) (f := hr) rfl (by omega) (by omega) (by omega) dX4_count_119 ?_
                    have r_21 := hhr (u)
                    refine lv_goto (tgt := 148) (pc := 120) hx hb dX4_count_120 (by decide) ?_
                    refine z_iadd (pc := 148) hx hb dX4_count_148 ?_
                    refine lv_istore_n (lv' := [(3, .int (zi ((z1 + (hr (u)))))), (6, .int (zi (0))), (5, .int (zi ((ca (u))))), (0, .ref (ad 0)), (1, .int (zi (S))), (2, .int (zi (w))), (4, .int (zi (z2)))]) (pc := 149) hx hb dX4_count_149 rfl hl (by decide) rfl (fun ls hl => ?_)
                    refine lv_iinc (v := zi (z2 + 1)) (lv' := [(4, .int (zi ((z2 + 1)))), (3, .int (zi ((z1 + (hr (u)))))), (6, .int (zi (0))), (5, .int (zi ((ca (u))))), (0, .ref (ad 0)), (1, .int (zi (S))), (2, .int (zi (w)))]) (pc := 150) hx hb dX4_count_150 hl (k := 6) rfl (zi_add _ _) (by decide) rfl (fun ls hl => ?_)
                    refine lv_goto (tgt := 28) (pc := 153) hx hb dX4_count_153 (by decide) ?_
                    exact ih  _ _ (by first | (exfalso; omega) | (simp only [cCt]; rw [e1, if_pos (by assumption)]; unfold shareZ; repeat (first | rw [if_pos (by omega)] | rw [if_neg (by omega)]))) (by rw [e2]; rfl) (e3) ls (lv_sub hl [4, 5, 6, 1, 0] rfl)
                · refine lv_iload (pc := 91) hx hb dX4_count_91 (lv_at hl 0 rfl) ?_
                  refine lv_iload_n (pc := 93) hx hb dX4_count_93 rfl (lv_at hl 3 rfl) ?_
                  refine z_iconst (pc := 94) hx hb dX4_count_94 ?_
                  refine z_isub (pc := 95) hx hb dX4_count_95 ?_
                  refine z_icmp_ne (tgt := 103) (pc := 96) hx hb dX4_count_96 (by decide) (by omega) (by omega) (fun c_22 => ?_) (fun c_22 => ?_)
                  · refine z_iconst (pc := 103) hx hb dX4_count_103 ?_
                    refine lv_istore (lv' := [(6, .int (zi (0))), (5, .int (zi ((ca (u))))), (0, .ref (ad 0)), (1, .int (zi (S))), (2, .int (zi (w))), (3, .int (zi (z1))), (4, .int (zi (z2)))]) (pc := 104) hx hb dX4_count_104 hl (by decide) rfl (fun ls hl => ?_)
                    refine lv_iload_n (pc := 106) hx hb dX4_count_106 rfl (lv_at hl 5 rfl) ?_
                    refine lv_iload_n (pc := 107) hx hb dX4_count_107 rfl (lv_at hl 4 rfl) ?_
                    refine z_bipush (pc := 108) hx hb dX4_count_108 (by decide) ?_
                    refine z_icmp_ne (tgt := 123) (pc := 110) hx hb dX4_count_110 (by decide) (by omega) (by omega) (fun c_23 => ?_) (fun c_23 => ?_)
                    · refine lv_iload_n (pc := 123) hx hb dX4_count_123 rfl (lv_at hl 4 rfl) ?_
                      refine z_bipush (pc := 124) hx hb dX4_count_124 (by decide) ?_
                      refine z_icmp_ne (tgt := 138) (pc := 126) hx hb dX4_count_126 (by decide) (by omega) (by omega) (fun c_24 => ?_) (fun c_24 => ?_)
                      · refine lv_iload (pc := 138) hx hb dX4_count_138 (lv_at hl 0 rfl) ?_
                        refine z_if_eq (tgt := 147) (pc := 140) hx hb dX4_count_140 (by decide) (by omega) (fun c_25 => ?_) (fun c_25 => ?_)
                        · refine z_iconst (pc := 147) hx hb dX4_count_147 ?_
                          refine z_iadd (pc := 148) hx hb dX4_count_148 ?_
                          refine lv_istore_n (lv' := [(3, .int (zi ((z1 + 0)))), (6, .int (zi (0))), (5, .int (zi ((ca (u))))), (0, .ref (ad 0)), (1, .int (zi (S))), (2, .int (zi (w))), (4, .int (zi (z2)))]) (pc := 149) hx hb dX4_count_149 rfl hl (by decide) rfl (fun ls hl => ?_)
                          refine lv_iinc (v := zi (z2 + 1)) (lv' := [(4, .int (zi ((z2 + 1)))), (3, .int (zi ((z1 + 0)))), (6, .int (zi (0))), (5, .int (zi ((ca (u))))), (0, .ref (ad 0)), (1, .int (zi (S))), (2, .int (zi (w)))]) (pc := 150) hx hb dX4_count_150 hl (k := 6) rfl (zi_add _ _) (by decide) rfl (fun ls hl => ?_)
                          refine lv_goto (tgt := 28) (pc := 153) hx hb dX4_count_153 (by decide) ?_
                          exact ih  _ _ (by first | (exfalso; omega) | (simp only [cCt]; rw [e1, if_pos (by assumption)]; unfold shareZ; repeat (first | rw [if_pos (by omega)] | rw [if_neg (by omega)]))) (by rw [e2]; rfl) (e3) ls (lv_sub hl [4, 5, 6, 1, 0] rfl)
                        · refine z_iconst (pc := 143) hx hb dX4_count_143 ?_
                          refine lv_goto (tgt := 148) (pc := 144) hx hb dX4_count_144 (by decide) ?_
                          refine z_iadd (pc := 148) hx hb dX4_count_148 ?_
                          refine lv_istore_n (lv' := [(3, .int (zi ((z1 + 1)))), (6, .int (zi (0))), (5, .int (zi ((ca (u))))), (0, .ref (ad 0)), (1, .int (zi (S))), (2, .int (zi (w))), (4, .int (zi (z2)))]) (pc := 149) hx hb dX4_count_149 rfl hl (by decide) rfl (fun ls hl => ?_)
                          refine lv_iinc (v := zi (z2 + 1)) (lv' := [(4, .int (zi ((z2 + 1)))), (3, .int (zi ((z1 + 1)))), (6, .int (zi (0))), (5, .int (zi ((ca (u))))), (0, .ref (ad 0)), (1, .int (zi (S))), (2, .int (zi (w)))]) (pc := 150) hx hb dX4_count_150 hl (k := 6) rfl (zi_add _ _) (by decide) rfl (fun ls hl => ?_)
                          refine lv_goto (tgt := 28) (pc := 153) hx hb dX4_count_153 (by decide) ?_
                          exact ih  _ _ (by first | (exfalso; omega) | (simp only [cCt]; rw [e1, if_pos (by assumption)]; unfold shareZ; repeat (first | rw [if_pos (by omega)] | rw [if_neg (by omega)]))) (by rw [e2]; rfl) (e3) ls (lv_sub hl [4, 5, 6, 1, 0] rfl)
                      · refine lv_aload_n (pc := 129) hx hb dX4_count_129 rfl (lv_at hl 2 rfl) ?_
                        refine lv_iload (pc := 130) hx hb dX4_count_130 (lv_at hl 6 rfl) ?_
                        refine rd_V (pc := 132) hx hb hml hown hT hK (c_X4_useHour D cI cJ l ad n st hr ca sp k ts th pr hc lu ll up lo fr rr hv hU hsp (z2) (u) (by omega) (by omega)) ca_X4_useHour tw_425 hP 0 4 rfl rfl rfl ⟨Nat.le_of_ble_eq_true rfl, Nat.le_of_ble_eq_true rfl⟩ rfl hl.1 (As := [.int (zi (z2))]) (rest := [.int (zi (z1))]) rfl (Nat.le_of_ble_eq_true rfl) ⟨Nat.le_of_ble_eq_true rfl, Nat.le_of_ble_eq_true rfl⟩ dX4_count_132 ?_
                        refine lv_goto (tgt := 148) (pc := 135) hx hb dX4_count_135 (by decide) ?_
                        refine z_iadd (pc := 148) hx hb dX4_count_148 ?_
                        refine lv_istore_n (lv' := [(3, .int (zi ((z1 + (useZ st hr sp (u)))))), (6, .int (zi (0))), (5, .int (zi ((ca (u))))), (0, .ref (ad 0)), (1, .int (zi (S))), (2, .int (zi (w))), (4, .int (zi (z2)))]) (pc := 149) hx hb dX4_count_149 rfl hl (by decide) rfl (fun ls hl => ?_)
                        refine lv_iinc (v := zi (z2 + 1)) (lv' := [(4, .int (zi ((z2 + 1)))), (3, .int (zi ((z1 + (useZ st hr sp (u)))))), (6, .int (zi (0))), (5, .int (zi ((ca (u))))), (0, .ref (ad 0)), (1, .int (zi (S))), (2, .int (zi (w)))]) (pc := 150) hx hb dX4_count_150 hl (k := 6) rfl (zi_add _ _) (by decide) rfl (fun ls hl => ?_)
                        refine lv_goto (tgt := 28) (pc := 153) hx hb dX4_count_153 (by decide) ?_
                        exact ih  _ _ (by first | (exfalso; omega) | (simp only [cCt]; rw [e1, if_pos (by assumption)]; unfold shareZ; repeat (first | rw [if_pos (by omega)] | rw [if_neg (by omega)]))) (by rw [e2]; rfl) (e3) ls (lv_sub hl [4, 5, 6, 1, 0] rfl)
                    · refine lv_aload_n (pc := 113) hx hb dX4_count_113 rfl (lv_at hl 2 rfl) ?_
                      refine va_get (D := D) (cl := vwCl) (ci := 4) (v := .ref (ad 2)) (C := RX4) (T := TX4) (N := 17) (pc := 114) hx hb hT inT4 hown hK.1 hP 0 rfl rfl 2 (by decide) (hT _ tw_339) (fun _ h9 => h9) rfl dX4_count_114 ?_
                      refine lv_iload (pc := 117) hx hb dX4_count_117 (lv_at hl 6 rfl) ?_
                      refine z_iald (pc := 119) hx hb hK hP 2 (u) (f := hr) rfl (by omega) (by omega) (by omega) dX4_count_119 ?_
                      have r_26 := hhr (u)
                      refine lv_goto (tgt := 148) (pc := 120) hx hb dX4_count_120 (by decide) ?_
                      refine z_iadd (pc := 148) hx hb dX4_count_148 ?_
                      refine lv_istore_n (lv' := [(3, .int (zi ((z1 + (hr (u)))))), (6, .int (zi (0))), (5, .int (zi ((ca (u))))), (0, .ref (ad 0)), (1, .int (zi (S))), (2, .int (zi (w))), (4, .int (zi (z2)))]) (pc := 149) hx hb dX4_count_149 rfl hl (by decide) rfl (fun ls hl => ?_)
                      refine lv_iinc (v := zi (z2 + 1)) (lv' := [(4, .int (zi ((z2 + 1)))), (3, .int (zi ((z1 + (hr (u)))))), (6, .int (zi (0))), (5, .int (zi ((ca (u))))), (0, .ref (ad 0)), (1, .int (zi (S))), (2, .int (zi (w)))]) (pc := 150) hx hb dX4_count_150 hl (k := 6) rfl (zi_add _ _) (by decide) rfl (fun ls hl => ?_)
                      refine lv_goto (tgt := 28) (pc := 153) hx hb dX4_count_153 (by decide) ?_
                      exact ih  _ _ (by first | (exfalso; omega) | (simp only [cCt]; rw [e1, if_pos (by assumption)]; unfold shareZ; repeat (first | rw [if_pos (by omega)] | rw [if_neg (by omega)]))) (by rw [e2]; rfl) (e3) ls (lv_sub hl [4, 5, 6, 1, 0] rfl)
                  · refine z_iconst (pc := 99) hx hb dX4_count_99 ?_
                    refine lv_goto (tgt := 104) (pc := 100) hx hb dX4_count_100 (by decide) ?_
                    refine lv_istore (lv' := [(6, .int (zi (1))), (5, .int (zi ((ca (u))))), (0, .ref (ad 0)), (1, .int (zi (S))), (2, .int (zi (w))), (3, .int (zi (z1))), (4, .int (zi (z2)))]) (pc := 104) hx hb dX4_count_104 hl (by decide) rfl (fun ls hl => ?_)
                    refine lv_iload_n (pc := 106) hx hb dX4_count_106 rfl (lv_at hl 5 rfl) ?_
                    refine lv_iload_n (pc := 107) hx hb dX4_count_107 rfl (lv_at hl 4 rfl) ?_
                    refine z_bipush (pc := 108) hx hb dX4_count_108 (by decide) ?_
                    refine z_icmp_ne (tgt := 123) (pc := 110) hx hb dX4_count_110 (by decide) (by omega) (by omega) (fun c_27 => ?_) (fun c_27 => ?_)
                    · refine lv_iload_n (pc := 123) hx hb dX4_count_123 rfl (lv_at hl 4 rfl) ?_
                      refine z_bipush (pc := 124) hx hb dX4_count_124 (by decide) ?_
                      refine z_icmp_ne (tgt := 138) (pc := 126) hx hb dX4_count_126 (by decide) (by omega) (by omega) (fun c_28 => ?_) (fun c_28 => ?_)
                      · refine lv_iload (pc := 138) hx hb dX4_count_138 (lv_at hl 0 rfl) ?_
                        refine z_if_eq (tgt := 147) (pc := 140) hx hb dX4_count_140 (by decide) (by omega) (fun c_29 => ?_) (fun c_29 => ?_)
                        · refine z_iconst (pc := 147) hx hb dX4_count_147 ?_
                          refine z_iadd (pc := 148) hx hb dX4_count_148 ?_
                          refine lv_istore_n (lv' := [(3, .int (zi ((z1 + 0)))), (6, .int (zi (1))), (5, .int (zi ((ca (u))))), (0, .ref (ad 0)), (1, .int (zi (S))), (2, .int (zi (w))), (4, .int (zi (z2)))]) (pc := 149) hx hb dX4_count_149 rfl hl (by decide) rfl (fun ls hl => ?_)
                          refine lv_iinc (v := zi (z2 + 1)) (lv' := [(4, .int (zi ((z2 + 1)))), (3, .int (zi ((z1 + 0)))), (6, .int (zi (1))), (5, .int (zi ((ca (u))))), (0, .ref (ad 0)), (1, .int (zi (S))), (2, .int (zi (w)))]) (pc := 150) hx hb dX4_count_150 hl (k := 6) rfl (zi_add _ _) (by decide) rfl (fun ls hl => ?_)
                          refine lv_goto (tgt := 28) (pc := 153) hx hb dX4_count_153 (by decide) ?_
                          exact ih  _ _ (by first | (exfalso; omega) | (simp only [cCt]; rw [e1, if_pos (by assumption)]; unfold shareZ; repeat (first | rw [if_pos (by omega)] | rw [if_neg (by omega)]))) (by rw [e2]; rfl) (e3) ls (lv_sub hl [4, 5, 6, 1, 0] rfl)
                        · refine z_iconst (pc := 143) hx hb dX4_count_143 ?_
                          refine lv_goto (tgt := 148) (pc := 144) hx hb dX4_count_144 (by decide) ?_
                          refine z_iadd (pc := 148) hx hb dX4_count_148 ?_
                          refine lv_istore_n (lv' := [(3, .int (zi ((z1 + 1)))), (6, .int (zi (1))), (5, .int (zi ((ca (u))))), (0, .ref (ad 0)), (1, .int (zi (S))), (2, .int (zi (w))), (4, .int (zi (z2)))]) (pc := 149) hx hb dX4_count_149 rfl hl (by decide) rfl (fun ls hl => ?_)
                          refine lv_iinc (v := zi (z2 + 1)) (lv' := [(4, .int (zi ((z2 + 1)))), (3, .int (zi ((z1 + 1)))), (6, .int (zi (1))), (5, .int (zi ((ca (u))))), (0, .ref (ad 0)), (1, .int (zi (S))), (2, .int (zi (w)))]) (pc := 150) hx hb dX4_count_150 hl (k := 6) rfl (zi_add _ _) (by decide) rfl (fun ls hl => ?_)
                          refine lv_goto (tgt := 28) (pc := 153) hx hb dX4_count_153 (by decide) ?_
                          exact ih  _ _ (by first | (exfalso; omega) | (simp only [cCt]; rw [e1, if_pos (by assumption)]; unfold shareZ; repeat (first | rw [if_pos (by omega)] | rw [if_neg (by omega)]))) (by rw [e2]; rfl) (e3) ls (lv_sub hl [4, 5, 6, 1, 0] rfl)
                      · refine lv_aload_n (pc := 129) hx hb dX4_count_129 rfl (lv_at hl 2 rfl) ?_
                        refine lv_iload (pc := 130) hx hb dX4_count_130 (lv_at hl 6 rfl) ?_
                        refine rd_V (pc := 132) hx hb hml hown hT hK (c_X4_useHour D cI cJ l ad n st hr ca sp k ts th pr hc lu ll up lo fr rr hv hU hsp (z2) (u) (by omega) (by omega)) ca_X4_useHour tw_425 hP 0 4 rfl rfl rfl ⟨Nat.le_of_ble_eq_true rfl, Nat.le_of_ble_eq_true rfl⟩ rfl hl.1 (As := [.int (zi (z2))]) (rest := [.int (zi (z1))]) rfl (Nat.le_of_ble_eq_true rfl) ⟨Nat.le_of_ble_eq_true rfl, Nat.le_of_ble_eq_true rfl⟩ dX4_count_132 ?_
                        refine lv_goto (tgt := 148) (pc := 135) hx hb dX4_count_135 (by decide) ?_
                        refine z_iadd (pc := 148) hx hb dX4_count_148 ?_
                        refine lv_istore_n (lv' := [(3, .int (zi ((z1 + (useZ st hr sp (u)))))), (6, .int (zi (1))), (5, .int (zi ((ca (u))))), (0, .ref (ad 0)), (1, .int (zi (S))), (2, .int (zi (w))), (4, .int (zi (z2)))]) (pc := 149) hx hb dX4_count_149 rfl hl (by decide) rfl (fun ls hl => ?_)
                        refine lv_iinc (v := zi (z2 + 1)) (lv' := [(4, .int (zi ((z2 + 1)))), (3, .int (zi ((z1 + (useZ st hr sp (u)))))), (6, .int (zi (1))), (5, .int (zi ((ca (u))))), (0, .ref (ad 0)), (1, .int (zi (S))), (2, .int (zi (w)))]) (pc := 150) hx hb dX4_count_150 hl (k := 6) rfl (zi_add _ _) (by decide) rfl (fun ls hl => ?_)
                        refine lv_goto (tgt := 28) (pc := 153) hx hb dX4_count_153 (by decide) ?_
                        exact ih  _ _ (by first | (exfalso; omega) | (simp only [cCt]; rw [e1, if_pos (by assumption)]; unfold shareZ; repeat (first | rw [if_pos (by omega)] | rw [if_neg (by omega)]))) (by rw [e2]; rfl) (e3) ls (lv_sub hl [4, 5, 6, 1, 0] rfl)
                    · refine lv_aload_n (pc := 113) hx hb dX4_count_113 rfl (lv_at hl 2 rfl) ?_
                      refine va_get (D := D) (cl := vwCl) (ci := 4) (v := .ref (ad 2)) (C := RX4) (T := TX4) (N := 17) (pc := 114) hx hb hT inT4 hown hK.1 hP 0 rfl rfl 2 (by decide) (hT _ tw_339) (fun _ h9 => h9) rfl dX4_count_114 ?_
                      refine lv_iload (pc := 117) hx hb dX4_count_117 (lv_at hl 6 rfl) ?_
                      refine z_iald (pc := 119) hx hb hK hP 2 (u) (f := hr) rfl (by omega) (by omega) (by omega) dX4_count_119 ?_
                      have r_30 := hhr (u)
                      refine lv_goto (tgt := 148) (pc := 120) hx hb dX4_count_120 (by decide) ?_
                      refine z_iadd (pc := 148) hx hb dX4_count_148 ?_
                      refine lv_istore_n (lv' := [(3, .int (zi ((z1 + (hr (u)))))), (6, .int (zi (1))), (5, .int (zi ((ca (u))))), (0, .ref (ad 0)), (1, .int (zi (S))), (2, .int (zi (w))), (4, .int (zi (z2)))]) (pc := 149) hx hb dX4_count_149 rfl hl (by decide) rfl (fun ls hl => ?_)
                      refine lv_iinc (v := zi (z2 + 1)) (lv' := [(4, .int (zi ((z2 + 1)))), (3, .int (zi ((z1 + (hr (u)))))), (6, .int (zi (1))), (5, .int (zi ((ca (u))))), (0, .ref (ad 0)), (1, .int (zi (S))), (2, .int (zi (w)))]) (pc := 150) hx hb dX4_count_150 hl (k := 6) rfl (zi_add _ _) (by decide) rfl (fun ls hl => ?_)
                      refine lv_goto (tgt := 28) (pc := 153) hx hb dX4_count_153 (by decide) ?_
                      exact ih  _ _ (by first | (exfalso; omega) | (simp only [cCt]; rw [e1, if_pos (by assumption)]; unfold shareZ; repeat (first | rw [if_pos (by omega)] | rw [if_neg (by omega)]))) (by rw [e2]; rfl) (e3) ls (lv_sub hl [4, 5, 6, 1, 0] rfl)
            · refine lv_iload (pc := 75) hx hb dX4_count_75 (lv_at hl 0 rfl) ?_
              refine z_if_lt (tgt := 99) (pc := 77) hx hb dX4_count_77 (by decide) (by omega) (fun c_31 => ?_) (fun c_31 => ?_)
              · refine z_iconst (pc := 99) hx hb dX4_count_99 ?_
                refine lv_goto (tgt := 104) (pc := 100) hx hb dX4_count_100 (by decide) ?_
                refine lv_istore (lv' := [(6, .int (zi (1))), (5, .int (zi ((ca (u))))), (0, .ref (ad 0)), (1, .int (zi (S))), (2, .int (zi (w))), (3, .int (zi (z1))), (4, .int (zi (z2)))]) (pc := 104) hx hb dX4_count_104 hl (by decide) rfl (fun ls hl => ?_)
                refine lv_iload_n (pc := 106) hx hb dX4_count_106 rfl (lv_at hl 5 rfl) ?_
                refine lv_iload_n (pc := 107) hx hb dX4_count_107 rfl (lv_at hl 4 rfl) ?_
                refine z_bipush (pc := 108) hx hb dX4_count_108 (by decide) ?_
                refine z_icmp_ne (tgt := 123) (pc := 110) hx hb dX4_count_110 (by decide) (by omega) (by omega) (fun c_32 => ?_) (fun c_32 => ?_)
                · refine lv_iload_n (pc := 123) hx hb dX4_count_123 rfl (lv_at hl 4 rfl) ?_
                  refine z_bipush (pc := 124) hx hb dX4_count_124 (by decide) ?_
                  refine z_icmp_ne (tgt := 138) (pc := 126) hx hb dX4_count_126 (by decide) (by omega) (by omega) (fun c_33 => ?_) (fun c_33 => ?_)
                  · refine lv_iload (pc := 138) hx hb dX4_count_138 (lv_at hl 0 rfl) ?_
                    refine z_if_eq (tgt := 147) (pc := 140) hx hb dX4_count_140 (by decide) (by omega) (fun c_34 => ?_) (fun c_34 => ?_)
                    · refine z_iconst (pc := 147) hx hb dX4_count_147 ?_
                      refine z_iadd (pc := 148) hx hb dX4_count_148 ?_
                      refine lv_istore_n (lv' := [(3, .int (zi ((z1 + 0)))), (6, .int (zi (1))), (5, .int (zi ((ca (u))))), (0, .ref (ad 0)), (1, .int (zi (S))), (2, .int (zi (w))), (4, .int (zi (z2)))]) (pc := 149) hx hb dX4_count_149 rfl hl (by decide) rfl (fun ls hl => ?_)
                      refine lv_iinc (v := zi (z2 + 1)) (lv' := [(4, .int (zi ((z2 + 1)))), (3, .int (zi ((z1 + 0)))), (6, .int (zi (1))), (5, .int (zi ((ca (u))))), (0, .ref (ad 0)), (1, .int (zi (S))), (2, .int (zi (w)))]) (pc := 150) hx hb dX4_count_150 hl (k := 6) rfl (zi_add _ _) (by decide) rfl (fun ls hl => ?_)
                      refine lv_goto (tgt := 28) (pc := 153) hx hb dX4_count_153 (by decide) ?_
                      exact ih  _ _ (by first | (exfalso; omega) | (simp only [cCt]; rw [e1, if_pos (by assumption)]; unfold shareZ; repeat (first | rw [if_pos (by omega)] | rw [if_neg (by omega)]))) (by rw [e2]; rfl) (e3) ls (lv_sub hl [4, 5, 6, 1, 0] rfl)
                    · refine z_iconst (pc := 143) hx hb dX4_count_143 ?_
                      refine lv_goto (tgt := 148) (pc := 144) hx hb dX4_count_144 (by decide) ?_
                      refine z_iadd (pc := 148) hx hb dX4_count_148 ?_
                      refine lv_istore_n (lv' := [(3, .int (zi ((z1 + 1)))), (6, .int (zi (1))), (5, .int (zi ((ca (u))))), (0, .ref (ad 0)), (1, .int (zi (S))), (2, .int (zi (w))), (4, .int (zi (z2)))]) (pc := 149) hx hb dX4_count_149 rfl hl (by decide) rfl (fun ls hl => ?_)
                      refine lv_iinc (v := zi (z2 + 1)) (lv' := [(4, .int (zi ((z2 + 1)))), (3, .int (zi ((z1 + 1)))), (6, .int (zi (1))), (5, .int (zi ((ca (u))))), (0, .ref (ad 0)), (1, .int (zi (S))), (2, .int (zi (w)))]) (pc := 150) hx hb dX4_count_150 hl (k := 6) rfl (zi_add _ _) (by decide) rfl (fun ls hl => ?_)
                      refine lv_goto (tgt := 28) (pc := 153) hx hb dX4_count_153 (by decide) ?_
                      exact ih  _ _ (by first | (exfalso; omega) | (simp only [cCt]; rw [e1, if_pos (by assumption)]; unfold shareZ; repeat (first | rw [if_pos (by omega)] | rw [if_neg (by omega)]))) (by rw [e2]; rfl) (e3) ls (lv_sub hl [4, 5, 6, 1, 0] rfl)
                  · refine lv_aload_n (pc := 129) hx hb dX4_count_129 rfl (lv_at hl 2 rfl) ?_
                    refine lv_iload (pc := 130) hx hb dX4_count_130 (lv_at hl 6 rfl) ?_
                    refine rd_V (pc := 132) hx hb hml hown hT hK (c_X4_useHour D cI cJ l ad n st hr ca sp k ts th pr hc lu ll up lo fr rr hv hU hsp (z2) (u) (by omega) (by omega)) ca_X4_useHour tw_425 hP 0 4 rfl rfl rfl ⟨Nat.le_of_ble_eq_true rfl, Nat.le_of_ble_eq_true rfl⟩ rfl hl.1 (As := [.int (zi (z2))]) (rest := [.int (zi (z1))]) rfl (Nat.le_of_ble_eq_true rfl) ⟨Nat.le_of_ble_eq_true rfl, Nat.le_of_ble_eq_true rfl⟩ dX4_count_132 ?_
                    refine lv_goto (tgt := 148) (pc := 135) hx hb dX4_count_135 (by decide) ?_
                    refine z_iadd (pc := 148) hx hb dX4_count_148 ?_
                    refine lv_istore_n (lv' := [(3, .int (zi ((z1 + (useZ st hr sp (u)))))), (6, .int (zi (1))), (5, .int (zi ((ca (u))))), (0, .ref (ad 0)), (1, .int (zi (S))), (2, .int (zi (w))), (4, .int (zi (z2)))]) (pc := 149) hx hb dX4_count_149 rfl hl (by decide) rfl (fun ls hl => ?_)
                    refine lv_iinc (v := zi (z2 + 1)) (lv' := [(4, .int (zi ((z2 + 1)))), (3, .int (zi ((z1 + (useZ st hr sp (u)))))), (6, .int (zi (1))), (5, .int (zi ((ca (u))))), (0, .ref (ad 0)), (1, .int (zi (S))), (2, .int (zi (w)))]) (pc := 150) hx hb dX4_count_150 hl (k := 6) rfl (zi_add _ _) (by decide) rfl (fun ls hl => ?_)
                    refine lv_goto (tgt := 28) (pc := 153) hx hb dX4_count_153 (by decide) ?_
                    exact ih  _ _ (by first | (exfalso; omega) | (simp only [cCt]; rw [e1, if_pos (by assumption)]; unfold shareZ; repeat (first | rw [if_pos (by omega)] | rw [if_neg (by omega)]))) (by rw [e2]; rfl) (e3) ls (lv_sub hl [4, 5, 6, 1, 0] rfl)
                · refine lv_aload_n (pc := 113) hx hb dX4_count_113 rfl (lv_at hl 2 rfl) ?_
                  refine va_get (D := D) (cl := vwCl) (ci := 4) (v := .ref (ad 2)) (C := RX4) (T := TX4) (N := 17) (pc := 114) hx hb hT inT4 hown hK.1 hP 0 rfl rfl 2 (by decide) (hT _ tw_339) (fun _ h9 => h9) rfl dX4_count_114 ?_
                  refine lv_iload (pc := 117) hx hb dX4_count_117 (lv_at hl 6 rfl) ?_
                  refine z_iald (pc := 119) hx hb hK hP 2 (u) (f := hr) rfl (by omega) (by omega) (by omega) dX4_count_119 ?_
                  have r_35 := hhr (u)
                  refine lv_goto (tgt := 148) (pc := 120) hx hb dX4_count_120 (by decide) ?_
                  refine z_iadd (pc := 148) hx hb dX4_count_148 ?_
                  refine lv_istore_n (lv' := [(3, .int (zi ((z1 + (hr (u)))))), (6, .int (zi (1))), (5, .int (zi ((ca (u))))), (0, .ref (ad 0)), (1, .int (zi (S))), (2, .int (zi (w))), (4, .int (zi (z2)))]) (pc := 149) hx hb dX4_count_149 rfl hl (by decide) rfl (fun ls hl => ?_)
                  refine lv_iinc (v := zi (z2 + 1)) (lv' := [(4, .int (zi ((z2 + 1)))), (3, .int (zi ((z1 + (hr (u)))))), (6, .int (zi (1))), (5, .int (zi ((ca (u))))), (0, .ref (ad 0)), (1, .int (zi (S))), (2, .int (zi (w)))]) (pc := 150) hx hb dX4_count_150 hl (k := 6) rfl (zi_add _ _) (by decide) rfl (fun ls hl => ?_)
                  refine lv_goto (tgt := 28) (pc := 153) hx hb dX4_count_153 (by decide) ?_
                  exact ih  _ _ (by first | (exfalso; omega) | (simp only [cCt]; rw [e1, if_pos (by assumption)]; unfold shareZ; repeat (first | rw [if_pos (by omega)] | rw [if_neg (by omega)]))) (by rw [e2]; rfl) (e3) ls (lv_sub hl [4, 5, 6, 1, 0] rfl)
              · refine lv_iload_n (pc := 80) hx hb dX4_count_80 rfl (lv_at hl 3 rfl) ?_
                refine z_bipush (pc := 81) hx hb dX4_count_81 (by decide) ?_
                refine z_icmp_ge (tgt := 103) (pc := 83) hx hb dX4_count_83 (by decide) (by omega) (by omega) (fun c_36 => ?_) (fun c_36 => ?_)
                · refine z_iconst (pc := 103) hx hb dX4_count_103 ?_
                  refine lv_istore (lv' := [(6, .int (zi (0))), (5, .int (zi ((ca (u))))), (0, .ref (ad 0)), (1, .int (zi (S))), (2, .int (zi (w))), (3, .int (zi (z1))), (4, .int (zi (z2)))]) (pc := 104) hx hb dX4_count_104 hl (by decide) rfl (fun ls hl => ?_)
                  refine lv_iload_n (pc := 106) hx hb dX4_count_106 rfl (lv_at hl 5 rfl) ?_
                  refine lv_iload_n (pc := 107) hx hb dX4_count_107 rfl (lv_at hl 4 rfl) ?_
                  refine z_bipush (pc := 108) hx hb dX4_count_108 (by decide) ?_
                  refine z_icmp_ne (tgt := 123) (pc := 110) hx hb dX4_count_110 (by decide) (by omega) (by omega) (fun c_37 => ?_) (fun c_37 => ?_)
                  · refine lv_iload_n (pc := 123) hx hb dX4_count_123 rfl (lv_at hl 4 rfl) ?_
                    refine z_bipush (pc := 124) hx hb dX4_count_124 (by decide) ?_
                    refine z_icmp_ne (tgt := 138) (pc := 126) hx hb dX4_count_126 (by decide) (by omega) (by omega) (fun c_38 => ?_) (fun c_38 => ?_)
                    · refine lv_iload (pc := 138) hx hb dX4_count_138 (lv_at hl 0 rfl) ?_
                      refine z_if_eq (tgt := 147) (pc := 140) hx hb dX4_count_140 (by decide) (by omega) (fun c_39 => ?_) (fun c_39 => ?_)
                      · refine z_iconst (pc := 147) hx hb dX4_count_147 ?_
                        refine z_iadd (pc := 148) hx hb dX4_count_148 ?_
                        refine lv_istore_n (lv' := [(3, .int (zi ((z1 + 0)))), (6, .int (zi (0))), (5, .int (zi ((ca (u))))), (0, .ref (ad 0)), (1, .int (zi (S))), (2, .int (zi (w))), (4, .int (zi (z2)))]) (pc := 149) hx hb dX4_count_149 rfl hl (by decide) rfl (fun ls hl => ?_)
                        refine lv_iinc (v := zi (z2 + 1)) (lv' := [(4, .int (zi ((z2 + 1)))), (3, .int (zi ((z1 + 0)))), (6, .int (zi (0))), (5, .int (zi ((ca (u))))), (0, .ref (ad 0)), (1, .int (zi (S))), (2, .int (zi (w)))]) (pc := 150) hx hb dX4_count_150 hl (k := 6) rfl (zi_add _ _) (by decide) rfl (fun ls hl => ?_)
                        refine lv_goto (tgt := 28) (pc := 153) hx hb dX4_count_153 (by decide) ?_
                        exact ih  _ _ (by first | (exfalso; omega) | (simp only [cCt]; rw [e1, if_pos (by assumption)]; unfold shareZ; repeat (first | rw [if_pos (by omega)] | rw [if_neg (by omega)]))) (by rw [e2]; rfl) (e3) ls (lv_sub hl [4, 5, 6, 1, 0] rfl)
                      · refine z_iconst (pc := 143) hx hb dX4_count_143 ?_
                        refine lv_goto (tgt := 148) (pc := 144) hx hb dX4_count_144 (by decide) ?_
                        refine z_iadd (pc := 148) hx hb dX4_count_148 ?_
                        refine lv_istore_n (lv' := [(3, .int (zi ((z1 + 1)))), (6, .int (zi (0))), (5, .int (zi ((ca (u))))), (0, .ref (ad 0)), (1, .int (zi (S))), (2, .int (zi (w))), (4, .int (zi (z2)))]) (pc := 149) hx hb dX4_count_149 rfl hl (by decide) rfl (fun ls hl => ?_)
                        refine lv_iinc (v := zi (z2 + 1)) (lv' := [(4, .int (zi ((z2 + 1)))), (3, .int (zi ((z1 + 1)))), (6, .int (zi (0))), (5, .int (zi ((ca (u))))), (0, .ref (ad 0)), (1, .int (zi (S))), (2, .int (zi (w)))]) (pc := 150) hx hb dX4_count_150 hl (k := 6) rfl (zi_add _ _) (by decide) rfl (fun ls hl => ?_)
                        refine lv_goto (tgt := 28) (pc := 153) hx hb dX4_count_153 (by decide) ?_
                        exact ih  _ _ (by first | (exfalso; omega) | (simp only [cCt]; rw [e1, if_pos (by assumption)]; unfold shareZ; repeat (first | rw [if_pos (by omega)] | rw [if_neg (by omega)]))) (by rw [e2]; rfl) (e3) ls (lv_sub hl [4, 5, 6, 1, 0] rfl)
                    · refine lv_aload_n (pc := 129) hx hb dX4_count_129 rfl (lv_at hl 2 rfl) ?_
                      refine lv_iload (pc := 130) hx hb dX4_count_130 (lv_at hl 6 rfl) ?_
                      refine rd_V (pc := 132) hx hb hml hown hT hK (c_X4_useHour D cI cJ l ad n st hr ca sp k ts th pr hc lu ll up lo fr rr hv hU hsp (z2) (u) (by omega) (by omega)) ca_X4_useHour tw_425 hP 0 4 rfl rfl rfl ⟨Nat.le_of_ble_eq_true rfl, Nat.le_of_ble_eq_true rfl⟩ rfl hl.1 (As := [.int (zi (z2))]) (rest := [.int (zi (z1))]) rfl (Nat.le_of_ble_eq_true rfl) ⟨Nat.le_of_ble_eq_true rfl, Nat.le_of_ble_eq_true rfl⟩ dX4_count_132 ?_
                      refine lv_goto (tgt := 148) (pc := 135) hx hb dX4_count_135 (by decide) ?_
                      refine z_iadd (pc := 148) hx hb dX4_count_148 ?_
                      refine lv_istore_n (lv' := [(3, .int (zi ((z1 + (useZ st hr sp (u)))))), (6, .int (zi (0))), (5, .int (zi ((ca (u))))), (0, .ref (ad 0)), (1, .int (zi (S))), (2, .int (zi (w))), (4, .int (zi (z2)))]) (pc := 149) hx hb dX4_count_149 rfl hl (by decide) rfl (fun ls hl => ?_)
                      refine lv_iinc (v := zi (z2 + 1)) (lv' := [(4, .int (zi ((z2 + 1)))), (3, .int (zi ((z1 + (useZ st hr sp (u)))))), (6, .int (zi (0))), (5, .int (zi ((ca (u))))), (0, .ref (ad 0)), (1, .int (zi (S))), (2, .int (zi (w)))]) (pc := 150) hx hb dX4_count_150 hl (k := 6) rfl (zi_add _ _) (by decide) rfl (fun ls hl => ?_)
                      refine lv_goto (tgt := 28) (pc := 153) hx hb dX4_count_153 (by decide) ?_
                      exact ih  _ _ (by first | (exfalso; omega) | (simp only [cCt]; rw [e1, if_pos (by assumption)]; unfold shareZ; repeat (first | rw [if_pos (by omega)] | rw [if_neg (by omega)]))) (by rw [e2]; rfl) (e3) ls (lv_sub hl [4, 5, 6, 1, 0] rfl)
                  · refine lv_aload_n (pc := 113) hx hb dX4_count_113 rfl (lv_at hl 2 rfl) ?_
                    refine va_get (D := D) (cl := vwCl) (ci := 4) (v := .ref (ad 2)) (C := RX4) (T := TX4) (N := 17) (pc := 114) hx hb hT inT4 hown hK.1 hP 0 rfl rfl 2 (by decide) (hT _ tw_339) (fun _ h9 => h9) rfl dX4_count_114 ?_
                    refine lv_iload (pc := 117) hx hb dX4_count_117 (lv_at hl 6 rfl) ?_
                    refine z_iald (pc := 119) hx hb hK hP 2 (u) (f := hr) rfl (by omega) (by omega) (by omega) dX4_count_119 ?_
                    have r_40 := hhr (u)
                    refine lv_goto (tgt := 148) (pc := 120) hx hb dX4_count_120 (by decide) ?_
                    refine z_iadd (pc := 148) hx hb dX4_count_148 ?_
                    refine lv_istore_n (lv' := [(3, .int (zi ((z1 + (hr (u)))))), (6, .int (zi (0))), (5, .int (zi ((ca (u))))), (0, .ref (ad 0)), (1, .int (zi (S))), (2, .int (zi (w))), (4, .int (zi (z2)))]) (pc := 149) hx hb dX4_count_149 rfl hl (by decide) rfl (fun ls hl => ?_)
                    refine lv_iinc (v := zi (z2 + 1)) (lv' := [(4, .int (zi ((z2 + 1)))), (3, .int (zi ((z1 + (hr (u)))))), (6, .int (zi (0))), (5, .int (zi ((ca (u))))), (0, .ref (ad 0)), (1, .int (zi (S))), (2, .int (zi (w)))]) (pc := 150) hx hb dX4_count_150 hl (k := 6) rfl (zi_add _ _) (by decide) rfl (fun ls hl => ?_)
                    refine lv_goto (tgt := 28) (pc := 153) hx hb dX4_count_153 (by decide) ?_
                    exact ih  _ _ (by first | (exfalso; omega) | (simp only [cCt]; rw [e1, if_pos (by assumption)]; unfold shareZ; repeat (first | rw [if_pos (by omega)] | rw [if_neg (by omega)]))) (by rw [e2]; rfl) (e3) ls (lv_sub hl [4, 5, 6, 1, 0] rfl)
                · refine lv_iload_n (pc := 86) hx hb dX4_count_86 rfl (lv_at hl 3 rfl) ?_
                  refine z_iconst (pc := 87) hx hb dX4_count_87 ?_
                  refine z_icmp_le (tgt := 103) (pc := 88) hx hb dX4_count_88 (by decide) (by omega) (by omega) (fun c_41 => ?_) (fun c_41 => ?_)
                  · refine z_iconst (pc := 103) hx hb dX4_count_103 ?_
                    refine lv_istore (lv' := [(6, .int (zi (0))), (5, .int (zi ((ca (u))))), (0, .ref (ad 0)), (1, .int (zi (S))), (2, .int (zi (w))), (3, .int (zi (z1))), (4, .int (zi (z2)))]) (pc := 104) hx hb dX4_count_104 hl (by decide) rfl (fun ls hl => ?_)
                    refine lv_iload_n (pc := 106) hx hb dX4_count_106 rfl (lv_at hl 5 rfl) ?_
                    refine lv_iload_n (pc := 107) hx hb dX4_count_107 rfl (lv_at hl 4 rfl) ?_
                    refine z_bipush (pc := 108) hx hb dX4_count_108 (by decide) ?_
                    refine z_icmp_ne (tgt := 123) (pc := 110) hx hb dX4_count_110 (by decide) (by omega) (by omega) (fun c_42 => ?_) (fun c_42 => ?_)
                    · refine lv_iload_n (pc := 123) hx hb dX4_count_123 rfl (lv_at hl 4 rfl) ?_
                      refine z_bipush (pc := 124) hx hb dX4_count_124 (by decide) ?_
                      refine z_icmp_ne (tgt := 138) (pc := 126) hx hb dX4_count_126 (by decide) (by omega) (by omega) (fun c_43 => ?_) (fun c_43 => ?_)
                      · refine lv_iload (pc := 138) hx hb dX4_count_138 (lv_at hl 0 rfl) ?_
                        refine z_if_eq (tgt := 147) (pc := 140) hx hb dX4_count_140 (by decide) (by omega) (fun c_44 => ?_) (fun c_44 => ?_)
                        · refine z_iconst (pc := 147) hx hb dX4_count_147 ?_
                          refine z_iadd (pc := 148) hx hb dX4_count_148 ?_
                          refine lv_istore_n (lv' := [(3, .int (zi ((z1 + 0)))), (6, .int (zi (0))), (5, .int (zi ((ca (u))))), (0, .ref (ad 0)), (1, .int (zi (S))), (2, .int (zi (w))), (4, .int (zi (z2)))]) (pc := 149) hx hb dX4_count_149 rfl hl (by decide) rfl (fun ls hl => ?_)
                          refine lv_iinc (v := zi (z2 + 1)) (lv' := [(4, .int (zi ((z2 + 1)))), (3, .int (zi ((z1 + 0)))), (6, .int (zi (0))), (5, .int (zi ((ca (u))))), (0, .ref (ad 0)), (1, .int (zi (S))), (2, .int (zi (w)))]) (pc := 150) hx hb dX4_count_150 hl (k := 6) rfl (zi_add _ _) (by decide) rfl (fun ls hl => ?_)
                          refine lv_goto (tgt := 28) (pc := 153) hx hb dX4_count_153 (by decide) ?_
                          exact ih  _ _ (by first | (exfalso; omega) | (simp only [cCt]; rw [e1, if_pos (by assumption)]; unfold shareZ; repeat (first | rw [if_pos (by omega)] | rw [if_neg (by omega)]))) (by rw [e2]; rfl) (e3) ls (lv_sub hl [4, 5, 6, 1, 0] rfl)
                        · refine z_iconst (pc := 143) hx hb dX4_count_143 ?_
                          refine lv_goto (tgt := 148) (pc := 144) hx hb dX4_count_144 (by decide) ?_
                          refine z_iadd (pc := 148) hx hb dX4_count_148 ?_
                          refine lv_istore_n (lv' := [(3, .int (zi ((z1 + 1)))), (6, .int (zi (0))), (5, .int (zi ((ca (u))))), (0, .ref (ad 0)), (1, .int (zi (S))), (2, .int (zi (w))), (4, .int (zi (z2)))]) (pc := 149) hx hb dX4_count_149 rfl hl (by decide) rfl (fun ls hl => ?_)
                          refine lv_iinc (v := zi (z2 + 1)) (lv' := [(4, .int (zi ((z2 + 1)))), (3, .int (zi ((z1 + 1)))), (6, .int (zi (0))), (5, .int (zi ((ca (u))))), (0, .ref (ad 0)), (1, .int (zi (S))), (2, .int (zi (w)))]) (pc := 150) hx hb dX4_count_150 hl (k := 6) rfl (zi_add _ _) (by decide) rfl (fun ls hl => ?_)
                          refine lv_goto (tgt := 28) (pc := 153) hx hb dX4_count_153 (by decide) ?_
                          exact ih  _ _ (by first | (exfalso; omega) | (simp only [cCt]; rw [e1, if_pos (by assumption)]; unfold shareZ; repeat (first | rw [if_pos (by omega)] | rw [if_neg (by omega)]))) (by rw [e2]; rfl) (e3) ls (lv_sub hl [4, 5, 6, 1, 0] rfl)
                      · refine lv_aload_n (pc := 129) hx hb dX4_count_129 rfl (lv_at hl 2 rfl) ?_
                        refine lv_iload (pc := 130) hx hb dX4_count_130 (lv_at hl 6 rfl) ?_
                        refine rd_V (pc := 132) hx hb hml hown hT hK (c_X4_useHour D cI cJ l ad n st hr ca sp k ts th pr hc lu ll up lo fr rr hv hU hsp (z2) (u) (by omega) (by omega)) ca_X4_useHour tw_425 hP 0 4 rfl rfl rfl ⟨Nat.le_of_ble_eq_true rfl, Nat.le_of_ble_eq_true rfl⟩ rfl hl.1 (As := [.int (zi (z2))]) (rest := [.int (zi (z1))]) rfl (Nat.le_of_ble_eq_true rfl) ⟨Nat.le_of_ble_eq_true rfl, Nat.le_of_ble_eq_true rfl⟩ dX4_count_132 ?_
                        refine lv_goto (tgt := 148) (pc := 135) hx hb dX4_count_135 (by decide) ?_
                        refine z_iadd (pc := 148) hx hb dX4_count_148 ?_
                        refine lv_istore_n (lv' := [(3, .int (zi ((z1 + (useZ st hr sp (u)))))), (6, .int (zi (0))), (5, .int (zi ((ca (u))))), (0, .ref (ad 0)), (1, .int (zi (S))), (2, .int (zi (w))), (4, .int (zi (z2)))]) (pc := 149) hx hb dX4_count_149 rfl hl (by decide) rfl (fun ls hl => ?_)
                        refine lv_iinc (v := zi (z2 + 1)) (lv' := [(4, .int (zi ((z2 + 1)))), (3, .int (zi ((z1 + (useZ st hr sp (u)))))), (6, .int (zi (0))), (5, .int (zi ((ca (u))))), (0, .ref (ad 0)), (1, .int (zi (S))), (2, .int (zi (w)))]) (pc := 150) hx hb dX4_count_150 hl (k := 6) rfl (zi_add _ _) (by decide) rfl (fun ls hl => ?_)
                        refine lv_goto (tgt := 28) (pc := 153) hx hb dX4_count_153 (by decide) ?_
                        exact ih  _ _ (by first | (exfalso; omega) | (simp only [cCt]; rw [e1, if_pos (by assumption)]; unfold shareZ; repeat (first | rw [if_pos (by omega)] | rw [if_neg (by omega)]))) (by rw [e2]; rfl) (e3) ls (lv_sub hl [4, 5, 6, 1, 0] rfl)
                    · refine lv_aload_n (pc := 113) hx hb dX4_count_113 rfl (lv_at hl 2 rfl) ?_
                      refine va_get (D := D) (cl := vwCl) (ci := 4) (v := .ref (ad 2)) (C := RX4) (T := TX4) (N := 17) (pc := 114) hx hb hT inT4 hown hK.1 hP 0 rfl rfl 2 (by decide) (hT _ tw_339) (fun _ h9 => h9) rfl dX4_count_114 ?_
                      refine lv_iload (pc := 117) hx hb dX4_count_117 (lv_at hl 6 rfl) ?_
                      refine z_iald (pc := 119) hx hb hK hP 2 (u) (f := hr) rfl (by omega) (by omega) (by omega) dX4_count_119 ?_
                      have r_45 := hhr (u)
                      refine lv_goto (tgt := 148) (pc := 120) hx hb dX4_count_120 (by decide) ?_
                      refine z_iadd (pc := 148) hx hb dX4_count_148 ?_
                      refine lv_istore_n (lv' := [(3, .int (zi ((z1 + (hr (u)))))), (6, .int (zi (0))), (5, .int (zi ((ca (u))))), (0, .ref (ad 0)), (1, .int (zi (S))), (2, .int (zi (w))), (4, .int (zi (z2)))]) (pc := 149) hx hb dX4_count_149 rfl hl (by decide) rfl (fun ls hl => ?_)
                      refine lv_iinc (v := zi (z2 + 1)) (lv' := [(4, .int (zi ((z2 + 1)))), (3, .int (zi ((z1 + (hr (u)))))), (6, .int (zi (0))), (5, .int (zi ((ca (u))))), (0, .ref (ad 0)), (1, .int (zi (S))), (2, .int (zi (w)))]) (pc := 150) hx hb dX4_count_150 hl (k := 6) rfl (zi_add _ _) (by decide) rfl (fun ls hl => ?_)
                      refine lv_goto (tgt := 28) (pc := 153) hx hb dX4_count_153 (by decide) ?_
                      exact ih  _ _ (by first | (exfalso; omega) | (simp only [cCt]; rw [e1, if_pos (by assumption)]; unfold shareZ; repeat (first | rw [if_pos (by omega)] | rw [if_neg (by omega)]))) (by rw [e2]; rfl) (e3) ls (lv_sub hl [4, 5, 6, 1, 0] rfl)
                  · refine lv_iload (pc := 91) hx hb dX4_count_91 (lv_at hl 0 rfl) ?_
                    refine lv_iload_n (pc := 93) hx hb dX4_count_93 rfl (lv_at hl 3 rfl) ?_
                    refine z_iconst (pc := 94) hx hb dX4_count_94 ?_
                    refine z_isub (pc := 95) hx hb dX4_count_95 ?_
                    refine z_icmp_ne (tgt := 103) (pc := 96) hx hb dX4_count_96 (by decide) (by omega) (by omega) (fun c_46 => ?_) (fun c_46 => ?_)
                    · refine z_iconst (pc := 103) hx hb dX4_count_103 ?_
                      refine lv_istore (lv' := [(6, .int (zi (0))), (5, .int (zi ((ca (u))))), (0, .ref (ad 0)), (1, .int (zi (S))), (2, .int (zi (w))), (3, .int (zi (z1))), (4, .int (zi (z2)))]) (pc := 104) hx hb dX4_count_104 hl (by decide) rfl (fun ls hl => ?_)
                      refine lv_iload_n (pc := 106) hx hb dX4_count_106 rfl (lv_at hl 5 rfl) ?_
                      refine lv_iload_n (pc := 107) hx hb dX4_count_107 rfl (lv_at hl 4 rfl) ?_
                      refine z_bipush (pc := 108) hx hb dX4_count_108 (by decide) ?_
                      refine z_icmp_ne (tgt := 123) (pc := 110) hx hb dX4_count_110 (by decide) (by omega) (by omega) (fun c_47 => ?_) (fun c_47 => ?_)
                      · refine lv_iload_n (pc := 123) hx hb dX4_count_123 rfl (lv_at hl 4 rfl) ?_
                        refine z_bipush (pc := 124) hx hb dX4_count_124 (by decide) ?_
                        refine z_icmp_ne (tgt := 138) (pc := 126) hx hb dX4_count_126 (by decide) (by omega) (by omega) (fun c_48 => ?_) (fun c_48 => ?_)
                        · refine lv_iload (pc := 138) hx hb dX4_count_138 (lv_at hl 0 rfl) ?_
                          refine z_if_eq (tgt := 147) (pc := 140) hx hb dX4_count_140 (by decide) (by omega) (fun c_49 => ?_) (fun c_49 => ?_)
                          · refine z_iconst (pc := 147) hx hb dX4_count_147 ?_
                            refine z_iadd (pc := 148) hx hb dX4_count_148 ?_
                            refine lv_istore_n (lv' := [(3, .int (zi ((z1 + 0)))), (6, .int (zi (0))), (5, .int (zi ((ca (u))))), (0, .ref (ad 0)), (1, .int (zi (S))), (2, .int (zi (w))), (4, .int (zi (z2)))]) (pc := 149) hx hb dX4_count_149 rfl hl (by decide) rfl (fun ls hl => ?_)
                            refine lv_iinc (v := zi (z2 + 1)) (lv' := [(4, .int (zi ((z2 + 1)))), (3, .int (zi ((z1 + 0)))), (6, .int (zi (0))), (5, .int (zi ((ca (u))))), (0, .ref (ad 0)), (1, .int (zi (S))), (2, .int (zi (w)))]) (pc := 150) hx hb dX4_count_150 hl (k := 6) rfl (zi_add _ _) (by decide) rfl (fun ls hl => ?_)
                            refine lv_goto (tgt := 28) (pc := 153) hx hb dX4_count_153 (by decide) ?_
                            exact ih  _ _ (by first | (exfalso; omega) | (simp only [cCt]; rw [e1, if_pos (by assumption)]; unfold shareZ; repeat (first | rw [if_pos (by omega)] | rw [if_neg (by omega)]))) (by rw [e2]; rfl) (e3) ls (lv_sub hl [4, 5, 6, 1, 0] rfl)
                          · refine z_iconst (pc := 143) hx hb dX4_count_143 ?_
                            refine lv_goto (tgt := 148) (pc := 144) hx hb dX4_count_144 (by decide) ?_
                            refine z_iadd (pc := 148) hx hb dX4_count_148 ?_
                            refine lv_istore_n (lv' := [(3, .int (zi ((z1 + 1)))), (6, .int (zi (0))), (5, .int (zi ((ca (u))))), (0, .ref (ad 0)), (1, .int (zi (S))), (2, .int (zi (w))), (4, .int (zi (z2)))]) (pc := 149) hx hb dX4_count_149 rfl hl (by decide) rfl (fun ls hl => ?_)
                            refine lv_iinc (v := zi (z2 + 1)) (lv' := [(4, .int (zi ((z2 + 1)))), (3, .int (zi ((z1 + 1)))), (6, .int (zi (0))), (5, .int (zi ((ca (u))))), (0, .ref (ad 0)), (1, .int (zi (S))), (2, .int (zi (w)))]) (pc := 150) hx hb dX4_count_150 hl (k := 6) rfl (zi_add _ _) (by decide) rfl (fun ls hl => ?_)
                            refine lv_goto (tgt := 28) (pc := 153) hx hb dX4_count_153 (by decide) ?_
                            exact ih  _ _ (by first | (exfalso; omega) | (simp only [cCt]; rw [e1, if_pos (by assumption)]; unfold shareZ; repeat (first | rw [if_pos (by omega)] | rw [if_neg (by omega)]))) (by rw [e2]; rfl) (e3) ls (lv_sub hl [4, 5, 6, 1, 0] rfl)
                        · refine lv_aload_n (pc := 129) hx hb dX4_count_129 rfl (lv_at hl 2 rfl) ?_
                          refine lv_iload (pc := 130) hx hb dX4_count_130 (lv_at hl 6 rfl) ?_
                          refine rd_V (pc := 132) hx hb hml hown hT hK (c_X4_useHour D cI cJ l ad n st hr ca sp k ts th pr hc lu ll up lo fr rr hv hU hsp (z2) (u) (by omega) (by omega)) ca_X4_useHour tw_425 hP 0 4 rfl rfl rfl ⟨Nat.le_of_ble_eq_true rfl, Nat.le_of_ble_eq_true rfl⟩ rfl hl.1 (As := [.int (zi (z2))]) (rest := [.int (zi (z1))]) rfl (Nat.le_of_ble_eq_true rfl) ⟨Nat.le_of_ble_eq_true rfl, Nat.le_of_ble_eq_true rfl⟩ dX4_count_132 ?_
                          refine lv_goto (tgt := 148) (pc := 135) hx hb dX4_count_135 (by decide) ?_
                          refine z_iadd (pc := 148) hx hb dX4_count_148 ?_
                          refine lv_istore_n (lv' := [(3, .int (zi ((z1 + (useZ st hr sp (u)))))), (6, .int (zi (0))), (5, .int (zi ((ca (u))))), (0, .ref (ad 0)), (1, .int (zi (S))), (2, .int (zi (w))), (4, .int (zi (z2)))]) (pc := 149) hx hb dX4_count_149 rfl hl (by decide) rfl (fun ls hl => ?_)
                          refine lv_iinc (v := zi (z2 + 1)) (lv' := [(4, .int (zi ((z2 + 1)))), (3, .int (zi ((z1 + (useZ st hr sp (u)))))), (6, .int (zi (0))), (5, .int (zi ((ca (u))))), (0, .ref (ad 0)), (1, .int (zi (S))), (2, .int (zi (w)))]) (pc := 150) hx hb dX4_count_150 hl (k := 6) rfl (zi_add _ _) (by decide) rfl (fun ls hl => ?_)
                          refine lv_goto (tgt := 28) (pc := 153) hx hb dX4_count_153 (by decide) ?_
                          exact ih  _ _ (by first | (exfalso; omega) | (simp only [cCt]; rw [e1, if_pos (by assumption)]; unfold shareZ; repeat (first | rw [if_pos (by omega)] | rw [if_neg (by omega)]))) (by rw [e2]; rfl) (e3) ls (lv_sub hl [4, 5, 6, 1, 0] rfl)
                      · refine lv_aload_n (pc := 113) hx hb dX4_count_113 rfl (lv_at hl 2 rfl) ?_
                        refine va_get (D := D) (cl := vwCl) (ci := 4) (v := .ref (ad 2)) (C := RX4) (T := TX4) (N := 17) (pc := 114) hx hb hT inT4 hown hK.1 hP 0 rfl rfl 2 (by decide) (hT _ tw_339) (fun _ h9 => h9) rfl dX4_count_114 ?_
                        refine lv_iload (pc := 117) hx hb dX4_count_117 (lv_at hl 6 rfl) ?_
                        refine z_iald (pc := 119) hx hb hK hP 2 (u) (f := hr) rfl (by omega) (by omega) (by omega) dX4_count_119 ?_
                        have r_50 := hhr (u)
                        refine lv_goto (tgt := 148) (pc := 120) hx hb dX4_count_120 (by decide) ?_
                        refine z_iadd (pc := 148) hx hb dX4_count_148 ?_
                        refine lv_istore_n (lv' := [(3, .int (zi ((z1 + (hr (u)))))), (6, .int (zi (0))), (5, .int (zi ((ca (u))))), (0, .ref (ad 0)), (1, .int (zi (S))), (2, .int (zi (w))), (4, .int (zi (z2)))]) (pc := 149) hx hb dX4_count_149 rfl hl (by decide) rfl (fun ls hl => ?_)
                        refine lv_iinc (v := zi (z2 + 1)) (lv' := [(4, .int (zi ((z2 + 1)))), (3, .int (zi ((z1 + (hr (u)))))), (6, .int (zi (0))), (5, .int (zi ((ca (u))))), (0, .ref (ad 0)), (1, .int (zi (S))), (2, .int (zi (w)))]) (pc := 150) hx hb dX4_count_150 hl (k := 6) rfl (zi_add _ _) (by decide) rfl (fun ls hl => ?_)
                        refine lv_goto (tgt := 28) (pc := 153) hx hb dX4_count_153 (by decide) ?_
                        exact ih  _ _ (by first | (exfalso; omega) | (simp only [cCt]; rw [e1, if_pos (by assumption)]; unfold shareZ; repeat (first | rw [if_pos (by omega)] | rw [if_neg (by omega)]))) (by rw [e2]; rfl) (e3) ls (lv_sub hl [4, 5, 6, 1, 0] rfl)
                    · refine z_iconst (pc := 99) hx hb dX4_count_99 ?_
                      refine lv_goto (tgt := 104) (pc := 100) hx hb dX4_count_100 (by decide) ?_
                      refine lv_istore (lv' := [(6, .int (zi (1))), (5, .int (zi ((ca (u))))), (0, .ref (ad 0)), (1, .int (zi (S))), (2, .int (zi (w))), (3, .int (zi (z1))), (4, .int (zi (z2)))]) (pc := 104) hx hb dX4_count_104 hl (by decide) rfl (fun ls hl => ?_)
                      refine lv_iload_n (pc := 106) hx hb dX4_count_106 rfl (lv_at hl 5 rfl) ?_
                      refine lv_iload_n (pc := 107) hx hb dX4_count_107 rfl (lv_at hl 4 rfl) ?_
                      refine z_bipush (pc := 108) hx hb dX4_count_108 (by decide) ?_
                      refine z_icmp_ne (tgt := 123) (pc := 110) hx hb dX4_count_110 (by decide) (by omega) (by omega) (fun c_51 => ?_) (fun c_51 => ?_)
                      · refine lv_iload_n (pc := 123) hx hb dX4_count_123 rfl (lv_at hl 4 rfl) ?_
                        refine z_bipush (pc := 124) hx hb dX4_count_124 (by decide) ?_
                        refine z_icmp_ne (tgt := 138) (pc := 126) hx hb dX4_count_126 (by decide) (by omega) (by omega) (fun c_52 => ?_) (fun c_52 => ?_)
                        · refine lv_iload (pc := 138) hx hb dX4_count_138 (lv_at hl 0 rfl) ?_
                          refine z_if_eq (tgt := 147) (pc := 140) hx hb dX4_count_140 (by decide) (by omega) (fun c_53 => ?_) (fun c_53 => ?_)
                          · refine z_iconst (pc := 147) hx hb dX4_count_147 ?_
                            refine z_iadd (pc := 148) hx hb dX4_count_148 ?_
                            refine lv_istore_n (lv' := [(3, .int (zi ((z1 + 0)))), (6, .int (zi (1))), (5, .int (zi ((ca (u))))), (0, .ref (ad 0)), (1, .int (zi (S))), (2, .int (zi (w))), (4, .int (zi (z2)))]) (pc := 149) hx hb dX4_count_149 rfl hl (by decide) rfl (fun ls hl => ?_)
                            refine lv_iinc (v := zi (z2 + 1)) (lv' := [(4, .int (zi ((z2 + 1)))), (3, .int (zi ((z1 + 0)))), (6, .int (zi (1))), (5, .int (zi ((ca (u))))), (0, .ref (ad 0)), (1, .int (zi (S))), (2, .int (zi (w)))]) (pc := 150) hx hb dX4_count_150 hl (k := 6) rfl (zi_add _ _) (by decide) rfl (fun ls hl => ?_)
                            refine lv_goto (tgt := 28) (pc := 153) hx hb dX4_count_153 (by decide) ?_
                            exact ih  _ _ (by first | (exfalso; omega) | (simp only [cCt]; rw [e1, if_pos (by assumption)]; unfold shareZ; repeat (first | rw [if_pos (by omega)] | rw [if_neg (by omega)]))) (by rw [e2]; rfl) (e3) ls (lv_sub hl [4, 5, 6, 1, 0] rfl)
                          · refine z_iconst (pc := 143) hx hb dX4_count_143 ?_
                            refine lv_goto (tgt := 148) (pc := 144) hx hb dX4_count_144 (by decide) ?_
                            refine z_iadd (pc := 148) hx hb dX4_count_148 ?_
                            refine lv_istore_n (lv' := [(3, .int (zi ((z1 + 1)))), (6, .int (zi (1))), (5, .int (zi ((ca (u))))), (0, .ref (ad 0)), (1, .int (zi (S))), (2, .int (zi (w))), (4, .int (zi (z2)))]) (pc := 149) hx hb dX4_count_149 rfl hl (by decide) rfl (fun ls hl => ?_)
                            refine lv_iinc (v := zi (z2 + 1)) (lv' := [(4, .int (zi ((z2 + 1)))), (3, .int (zi ((z1 + 1)))), (6, .int (zi (1))), (5, .int (zi ((ca (u))))), (0, .ref (ad 0)), (1, .int (zi (S))), (2, .int (zi (w)))]) (pc := 150) hx hb dX4_count_150 hl (k := 6) rfl (zi_add _ _) (by decide) rfl (fun ls hl => ?_)
                            refine lv_goto (tgt := 28) (pc := 153) hx hb dX4_count_153 (by decide) ?_
                            exact ih  _ _ (by first | (exfalso; omega) | (simp only [cCt]; rw [e1, if_pos (by assumption)]; unfold shareZ; repeat (first | rw [if_pos (by omega)] | rw [if_neg (by omega)]))) (by rw [e2]; rfl) (e3) ls (lv_sub hl [4, 5, 6, 1, 0] rfl)
                        · refine lv_aload_n (pc := 129) hx hb dX4_count_129 rfl (lv_at hl 2 rfl) ?_
                          refine lv_iload (pc := 130) hx hb dX4_count_130 (lv_at hl 6 rfl) ?_
                          refine rd_V (pc := 132) hx hb hml hown hT hK (c_X4_useHour D cI cJ l ad n st hr ca sp k ts th pr hc lu ll up lo fr rr hv hU hsp (z2) (u) (by omega) (by omega)) ca_X4_useHour tw_425 hP 0 4 rfl rfl rfl ⟨Nat.le_of_ble_eq_true rfl, Nat.le_of_ble_eq_true rfl⟩ rfl hl.1 (As := [.int (zi (z2))]) (rest := [.int (zi (z1))]) rfl (Nat.le_of_ble_eq_true rfl) ⟨Nat.le_of_ble_eq_true rfl, Nat.le_of_ble_eq_true rfl⟩ dX4_count_132 ?_
                          refine lv_goto (tgt := 148) (pc := 135) hx hb dX4_count_135 (by decide) ?_
                          refine z_iadd (pc := 148) hx hb dX4_count_148 ?_
                          refine lv_istore_n (lv' := [(3, .int (zi ((z1 + (useZ st hr sp (u)))))), (6, .int (zi (1))), (5, .int (zi ((ca (u))))), (0, .ref (ad 0)), (1, .int (zi (S))), (2, .int (zi (w))), (4, .int (zi (z2)))]) (pc := 149) hx hb dX4_count_149 rfl hl (by decide) rfl (fun ls hl => ?_)
                          refine lv_iinc (v := zi (z2 + 1)) (lv' := [(4, .int (zi ((z2 + 1)))), (3, .int (zi ((z1 + (useZ st hr sp (u)))))), (6, .int (zi (1))), (5, .int (zi ((ca (u))))), (0, .ref (ad 0)), (1, .int (zi (S))), (2, .int (zi (w)))]) (pc := 150) hx hb dX4_count_150 hl (k := 6) rfl (zi_add _ _) (by decide) rfl (fun ls hl => ?_)
                          refine lv_goto (tgt := 28) (pc := 153) hx hb dX4_count_153 (by decide) ?_
                          exact ih  _ _ (by first | (exfalso; omega) | (simp only [cCt]; rw [e1, if_pos (by assumption)]; unfold shareZ; repeat (first | rw [if_pos (by omega)] | rw [if_neg (by omega)]))) (by rw [e2]; rfl) (e3) ls (lv_sub hl [4, 5, 6, 1, 0] rfl)
                      · refine lv_aload_n (pc := 113) hx hb dX4_count_113 rfl (lv_at hl 2 rfl) ?_
                        refine va_get (D := D) (cl := vwCl) (ci := 4) (v := .ref (ad 2)) (C := RX4) (T := TX4) (N := 17) (pc := 114) hx hb hT inT4 hown hK.1 hP 0 rfl rfl 2 (by decide) (hT _ tw_339) (fun _ h9 => h9) rfl dX4_count_114 ?_
                        refine lv_iload (pc := 117) hx hb dX4_count_117 (lv_at hl 6 rfl) ?_
                        refine z_iald (pc := 119) hx hb hK hP 2 (u) (f := hr) rfl (by omega) (by omega) (by omega) dX4_count_119 ?_
                        have r_54 := hhr (u)
                        refine lv_goto (tgt := 148) (pc := 120) hx hb dX4_count_120 (by decide) ?_
                        refine z_iadd (pc := 148) hx hb dX4_count_148 ?_
                        refine lv_istore_n (lv' := [(3, .int (zi ((z1 + (hr (u)))))), (6, .int (zi (1))), (5, .int (zi ((ca (u))))), (0, .ref (ad 0)), (1, .int (zi (S))), (2, .int (zi (w))), (4, .int (zi (z2)))]) (pc := 149) hx hb dX4_count_149 rfl hl (by decide) rfl (fun ls hl => ?_)
                        refine lv_iinc (v := zi (z2 + 1)) (lv' := [(4, .int (zi ((z2 + 1)))), (3, .int (zi ((z1 + (hr (u)))))), (6, .int (zi (1))), (5, .int (zi ((ca (u))))), (0, .ref (ad 0)), (1, .int (zi (S))), (2, .int (zi (w)))]) (pc := 150) hx hb dX4_count_150 hl (k := 6) rfl (zi_add _ _) (by decide) rfl (fun ls hl => ?_)
                        refine lv_goto (tgt := 28) (pc := 153) hx hb dX4_count_153 (by decide) ?_
                        exact ih  _ _ (by first | (exfalso; omega) | (simp only [cCt]; rw [e1, if_pos (by assumption)]; unfold shareZ; repeat (first | rw [if_pos (by omega)] | rw [if_neg (by omega)]))) (by rw [e2]; rfl) (e3) ls (lv_sub hl [4, 5, 6, 1, 0] rfl)
          · refine lv_iload (pc := 65) hx hb dX4_count_65 (lv_at hl 0 rfl) ?_
            refine z_if_ge (tgt := 99) (pc := 67) hx hb dX4_count_67 (by decide) (by omega) (fun c_55 => ?_) (fun c_55 => ?_)
            · refine z_iconst (pc := 99) hx hb dX4_count_99 ?_
              refine lv_goto (tgt := 104) (pc := 100) hx hb dX4_count_100 (by decide) ?_
              refine lv_istore (lv' := [(6, .int (zi (1))), (5, .int (zi ((ca (u))))), (0, .ref (ad 0)), (1, .int (zi (S))), (2, .int (zi (w))), (3, .int (zi (z1))), (4, .int (zi (z2)))]) (pc := 104) hx hb dX4_count_104 hl (by decide) rfl (fun ls hl => ?_)
              refine lv_iload_n (pc := 106) hx hb dX4_count_106 rfl (lv_at hl 5 rfl) ?_
              refine lv_iload_n (pc := 107) hx hb dX4_count_107 rfl (lv_at hl 4 rfl) ?_
              refine z_bipush (pc := 108) hx hb dX4_count_108 (by decide) ?_
              refine z_icmp_ne (tgt := 123) (pc := 110) hx hb dX4_count_110 (by decide) (by omega) (by omega) (fun c_56 => ?_) (fun c_56 => ?_)
              · refine lv_iload_n (pc := 123) hx hb dX4_count_123 rfl (lv_at hl 4 rfl) ?_
                refine z_bipush (pc := 124) hx hb dX4_count_124 (by decide) ?_
                refine z_icmp_ne (tgt := 138) (pc := 126) hx hb dX4_count_126 (by decide) (by omega) (by omega) (fun c_57 => ?_) (fun c_57 => ?_)
                · refine lv_iload (pc := 138) hx hb dX4_count_138 (lv_at hl 0 rfl) ?_
                  refine z_if_eq (tgt := 147) (pc := 140) hx hb dX4_count_140 (by decide) (by omega) (fun c_58 => ?_) (fun c_58 => ?_)
                  · refine z_iconst (pc := 147) hx hb dX4_count_147 ?_
                    refine z_iadd (pc := 148) hx hb dX4_count_148 ?_
                    refine lv_istore_n (lv' := [(3, .int (zi ((z1 + 0)))), (6, .int (zi (1))), (5, .int (zi ((ca (u))))), (0, .ref (ad 0)), (1, .int (zi (S))), (2, .int (zi (w))), (4, .int (zi (z2)))]) (pc := 149) hx hb dX4_count_149 rfl hl (by decide) rfl (fun ls hl => ?_)
                    refine lv_iinc (v := zi (z2 + 1)) (lv' := [(4, .int (zi ((z2 + 1)))), (3, .int (zi ((z1 + 0)))), (6, .int (zi (1))), (5, .int (zi ((ca (u))))), (0, .ref (ad 0)), (1, .int (zi (S))), (2, .int (zi (w)))]) (pc := 150) hx hb dX4_count_150 hl (k := 6) rfl (zi_add _ _) (by decide) rfl (fun ls hl => ?_)
                    refine lv_goto (tgt := 28) (pc := 153) hx hb dX4_count_153 (by decide) ?_
                    exact ih  _ _ (by first | (exfalso; omega) | (simp only [cCt]; rw [e1, if_pos (by assumption)]; unfold shareZ; repeat (first | rw [if_pos (by omega)] | rw [if_neg (by omega)]))) (by rw [e2]; rfl) (e3) ls (lv_sub hl [4, 5, 6, 1, 0] rfl)
                  · refine z_iconst (pc := 143) hx hb dX4_count_143 ?_
                    refine lv_goto (tgt := 148) (pc := 144) hx hb dX4_count_144 (by decide) ?_
                    refine z_iadd (pc := 148) hx hb dX4_count_148 ?_
                    refine lv_istore_n (lv' := [(3, .int (zi ((z1 + 1)))), (6, .int (zi (1))), (5, .int (zi ((ca (u))))), (0, .ref (ad 0)), (1, .int (zi (S))), (2, .int (zi (w))), (4, .int (zi (z2)))]) (pc := 149) hx hb dX4_count_149 rfl hl (by decide) rfl (fun ls hl => ?_)
                    refine lv_iinc (v := zi (z2 + 1)) (lv' := [(4, .int (zi ((z2 + 1)))), (3, .int (zi ((z1 + 1)))), (6, .int (zi (1))), (5, .int (zi ((ca (u))))), (0, .ref (ad 0)), (1, .int (zi (S))), (2, .int (zi (w)))]) (pc := 150) hx hb dX4_count_150 hl (k := 6) rfl (zi_add _ _) (by decide) rfl (fun ls hl => ?_)
                    refine lv_goto (tgt := 28) (pc := 153) hx hb dX4_count_153 (by decide) ?_
                    exact ih  _ _ (by first | (exfalso; omega) | (simp only [cCt]; rw [e1, if_pos (by assumption)]; unfold shareZ; repeat (first | rw [if_pos (by omega)] | rw [if_neg (by omega)]))) (by rw [e2]; rfl) (e3) ls (lv_sub hl [4, 5, 6, 1, 0] rfl)
                · refine lv_aload_n (pc := 129) hx hb dX4_count_129 rfl (lv_at hl 2 rfl) ?_
                  refine lv_iload (pc := 130) hx hb dX4_count_130 (lv_at hl 6 rfl) ?_
                  refine rd_V (pc := 132) hx hb hml hown hT hK (c_X4_useHour D cI cJ l ad n st hr ca sp k ts th pr hc lu ll up lo fr rr hv hU hsp (z2) (u) (by omega) (by omega)) ca_X4_useHour tw_425 hP 0 4 rfl rfl rfl ⟨Nat.le_of_ble_eq_true rfl, Nat.le_of_ble_eq_true rfl⟩ rfl hl.1 (As := [.int (zi (z2))]) (rest := [.int (zi (z1))]) rfl (Nat.le_of_ble_eq_true rfl) ⟨Nat.le_of_ble_eq_true rfl, Nat.le_of_ble_eq_true rfl⟩ dX4_count_132 ?_
                  refine lv_goto (tgt := 148) (pc := 135) hx hb dX4_count_135 (by decide) ?_
                  refine z_iadd (pc := 148) hx hb dX4_count_148 ?_
                  refine lv_istore_n (lv' := [(3, .int (zi ((z1 + (useZ st hr sp (u)))))), (6, .int (zi (1))), (5, .int (zi ((ca (u))))), (0, .ref (ad 0)), (1, .int (zi (S))), (2, .int (zi (w))), (4, .int (zi (z2)))]) (pc := 149) hx hb dX4_count_149 rfl hl (by decide) rfl (fun ls hl => ?_)
                  refine lv_iinc (v := zi (z2 + 1)) (lv' := [(4, .int (zi ((z2 + 1)))), (3, .int (zi ((z1 + (useZ st hr sp (u)))))), (6, .int (zi (1))), (5, .int (zi ((ca (u))))), (0, .ref (ad 0)), (1, .int (zi (S))), (2, .int (zi (w)))]) (pc := 150) hx hb dX4_count_150 hl (k := 6) rfl (zi_add _ _) (by decide) rfl (fun ls hl => ?_)
                  refine lv_goto (tgt := 28) (pc := 153) hx hb dX4_count_153 (by decide) ?_
                  exact ih  _ _ (by first | (exfalso; omega) | (simp only [cCt]; rw [e1, if_pos (by assumption)]; unfold shareZ; repeat (first | rw [if_pos (by omega)] | rw [if_neg (by omega)]))) (by rw [e2]; rfl) (e3) ls (lv_sub hl [4, 5, 6, 1, 0] rfl)
              · refine lv_aload_n (pc := 113) hx hb dX4_count_113 rfl (lv_at hl 2 rfl) ?_
                refine va_get (D := D) (cl := vwCl) (ci := 4) (v := .ref (ad 2)) (C := RX4) (T := TX4) (N := 17) (pc := 114) hx hb hT inT4 hown hK.1 hP 0 rfl rfl 2 (by decide) (hT _ tw_339) (fun _ h9 => h9) rfl dX4_count_114 ?_
                refine lv_iload (pc := 117) hx hb dX4_count_117 (lv_at hl 6 rfl) ?_
                refine z_iald (pc := 119) hx hb hK hP 2 (u) (f := hr) rfl (by omega) (by omega) (by omega) dX4_count_119 ?_
                have r_59 := hhr (u)
                refine lv_goto (tgt := 148) (pc := 120) hx hb dX4_count_120 (by decide) ?_
                refine z_iadd (pc := 148) hx hb dX4_count_148 ?_
                refine lv_istore_n (lv' := [(3, .int (zi ((z1 + (hr (u)))))), (6, .int (zi (1))), (5, .int (zi ((ca (u))))), (0, .ref (ad 0)), (1, .int (zi (S))), (2, .int (zi (w))), (4, .int (zi (z2)))]) (pc := 149) hx hb dX4_count_149 rfl hl (by decide) rfl (fun ls hl => ?_)
                refine lv_iinc (v := zi (z2 + 1)) (lv' := [(4, .int (zi ((z2 + 1)))), (3, .int (zi ((z1 + (hr (u)))))), (6, .int (zi (1))), (5, .int (zi ((ca (u))))), (0, .ref (ad 0)), (1, .int (zi (S))), (2, .int (zi (w)))]) (pc := 150) hx hb dX4_count_150 hl (k := 6) rfl (zi_add _ _) (by decide) rfl (fun ls hl => ?_)
                refine lv_goto (tgt := 28) (pc := 153) hx hb dX4_count_153 (by decide) ?_
                exact ih  _ _ (by first | (exfalso; omega) | (simp only [cCt]; rw [e1, if_pos (by assumption)]; unfold shareZ; repeat (first | rw [if_pos (by omega)] | rw [if_neg (by omega)]))) (by rw [e2]; rfl) (e3) ls (lv_sub hl [4, 5, 6, 1, 0] rfl)
            · refine lv_iload_n (pc := 70) hx hb dX4_count_70 rfl (lv_at hl 3 rfl) ?_
              refine z_iconst (pc := 71) hx hb dX4_count_71 ?_
              refine z_icmp_ne (tgt := 80) (pc := 72) hx hb dX4_count_72 (by decide) (by omega) (by omega) (fun c_60 => ?_) (fun c_60 => ?_)
              · refine lv_iload_n (pc := 80) hx hb dX4_count_80 rfl (lv_at hl 3 rfl) ?_
                refine z_bipush (pc := 81) hx hb dX4_count_81 (by decide) ?_
                refine z_icmp_ge (tgt := 103) (pc := 83) hx hb dX4_count_83 (by decide) (by omega) (by omega) (fun c_61 => ?_) (fun c_61 => ?_)
                · refine z_iconst (pc := 103) hx hb dX4_count_103 ?_
                  refine lv_istore (lv' := [(6, .int (zi (0))), (5, .int (zi ((ca (u))))), (0, .ref (ad 0)), (1, .int (zi (S))), (2, .int (zi (w))), (3, .int (zi (z1))), (4, .int (zi (z2)))]) (pc := 104) hx hb dX4_count_104 hl (by decide) rfl (fun ls hl => ?_)
                  refine lv_iload_n (pc := 106) hx hb dX4_count_106 rfl (lv_at hl 5 rfl) ?_
                  refine lv_iload_n (pc := 107) hx hb dX4_count_107 rfl (lv_at hl 4 rfl) ?_
                  refine z_bipush (pc := 108) hx hb dX4_count_108 (by decide) ?_
                  refine z_icmp_ne (tgt := 123) (pc := 110) hx hb dX4_count_110 (by decide) (by omega) (by omega) (fun c_62 => ?_) (fun c_62 => ?_)
                  · refine lv_iload_n (pc := 123) hx hb dX4_count_123 rfl (lv_at hl 4 rfl) ?_
                    refine z_bipush (pc := 124) hx hb dX4_count_124 (by decide) ?_
                    refine z_icmp_ne (tgt := 138) (pc := 126) hx hb dX4_count_126 (by decide) (by omega) (by omega) (fun c_63 => ?_) (fun c_63 => ?_)
                    · refine lv_iload (pc := 138) hx hb dX4_count_138 (lv_at hl 0 rfl) ?_
                      refine z_if_eq (tgt := 147) (pc := 140) hx hb dX4_count_140 (by decide) (by omega) (fun c_64 => ?_) (fun c_64 => ?_)
                      · refine z_iconst (pc := 147) hx hb dX4_count_147 ?_
                        refine z_iadd (pc := 148) hx hb dX4_count_148 ?_
                        refine lv_istore_n (lv' := [(3, .int (zi ((z1 + 0)))), (6, .int (zi (0))), (5, .int (zi ((ca (u))))), (0, .ref (ad 0)), (1, .int (zi (S))), (2, .int (zi (w))), (4, .int (zi (z2)))]) (pc := 149) hx hb dX4_count_149 rfl hl (by decide) rfl (fun ls hl => ?_)
                        refine lv_iinc (v := zi (z2 + 1)) (lv' := [(4, .int (zi ((z2 + 1)))), (3, .int (zi ((z1 + 0)))), (6, .int (zi (0))), (5, .int (zi ((ca (u))))), (0, .ref (ad 0)), (1, .int (zi (S))), (2, .int (zi (w)))]) (pc := 150) hx hb dX4_count_150 hl (k := 6) rfl (zi_add _ _) (by decide) rfl (fun ls hl => ?_)
                        refine lv_goto (tgt := 28) (pc := 153) hx hb dX4_count_153 (by decide) ?_
                        exact ih  _ _ (by first | (exfalso; omega) | (simp only [cCt]; rw [e1, if_pos (by assumption)]; unfold shareZ; repeat (first | rw [if_pos (by omega)] | rw [if_neg (by omega)]))) (by rw [e2]; rfl) (e3) ls (lv_sub hl [4, 5, 6, 1, 0] rfl)
                      · refine z_iconst (pc := 143) hx hb dX4_count_143 ?_
                        refine lv_goto (tgt := 148) (pc := 144) hx hb dX4_count_144 (by decide) ?_
                        refine z_iadd (pc := 148) hx hb dX4_count_148 ?_
                        refine lv_istore_n (lv' := [(3, .int (zi ((z1 + 1)))), (6, .int (zi (0))), (5, .int (zi ((ca (u))))), (0, .ref (ad 0)), (1, .int (zi (S))), (2, .int (zi (w))), (4, .int (zi (z2)))]) (pc := 149) hx hb dX4_count_149 rfl hl (by decide) rfl (fun ls hl => ?_)
                        refine lv_iinc (v := zi (z2 + 1)) (lv' := [(4, .int (zi ((z2 + 1)))), (3, .int (zi ((z1 + 1)))), (6, .int (zi (0))), (5, .int (zi ((ca (u))))), (0, .ref (ad 0)), (1, .int (zi (S))), (2, .int (zi (w)))]) (pc := 150) hx hb dX4_count_150 hl (k := 6) rfl (zi_add _ _) (by decide) rfl (fun ls hl => ?_)
                        refine lv_goto (tgt := 28) (pc := 153) hx hb dX4_count_153 (by decide) ?_
                        exact ih  _ _ (by first | (exfalso; omega) | (simp only [cCt]; rw [e1, if_pos (by assumption)]; unfold shareZ; repeat (first | rw [if_pos (by omega)] | rw [if_neg (by omega)]))) (by rw [e2]; rfl) (e3) ls (lv_sub hl [4, 5, 6, 1, 0] rfl)
                    · refine lv_aload_n (pc := 129) hx hb dX4_count_129 rfl (lv_at hl 2 rfl) ?_
                      refine lv_iload (pc := 130) hx hb dX4_count_130 (lv_at hl 6 rfl) ?_
                      refine rd_V (pc := 132) hx hb hml hown hT hK (c_X4_useHour D cI cJ l ad n st hr ca sp k ts th pr hc lu ll up lo fr rr hv hU hsp (z2) (u) (by omega) (by omega)) ca_X4_useHour tw_425 hP 0 4 rfl rfl rfl ⟨Nat.le_of_ble_eq_true rfl, Nat.le_of_ble_eq_true rfl⟩ rfl hl.1 (As := [.int (zi (z2))]) (rest := [.int (zi (z1))]) rfl (Nat.le_of_ble_eq_true rfl) ⟨Nat.le_of_ble_eq_true rfl, Nat.le_of_ble_eq_true rfl⟩ dX4_count_132 ?_
                      refine lv_goto (tgt := 148) (pc := 135) hx hb dX4_count_135 (by decide) ?_
                      refine z_iadd (pc := 148) hx hb dX4_count_148 ?_
                      refine lv_istore_n (lv' := [(3, .int (zi ((z1 + (useZ st hr sp (u)))))), (6, .int (zi (0))), (5, .int (zi ((ca (u))))), (0, .ref (ad 0)), (1, .int (zi (S))), (2, .int (zi (w))), (4, .int (zi (z2)))]) (pc := 149) hx hb dX4_count_149 rfl hl (by decide) rfl (fun ls hl => ?_)
                      refine lv_iinc (v := zi (z2 + 1)) (lv' := [(4, .int (zi ((z2 + 1)))), (3, .int (zi ((z1 + (useZ st hr sp (u)))))), (6, .int (zi (0))), (5, .int (zi ((ca (u))))), (0, .ref (ad 0)), (1, .int (zi (S))), (2, .int (zi (w)))]) (pc := 150) hx hb dX4_count_150 hl (k := 6) rfl (zi_add _ _) (by decide) rfl (fun ls hl => ?_)
                      refine lv_goto (tgt := 28) (pc := 153) hx hb dX4_count_153 (by decide) ?_
                      exact ih  _ _ (by first | (exfalso; omega) | (simp only [cCt]; rw [e1, if_pos (by assumption)]; unfold shareZ; repeat (first | rw [if_pos (by omega)] | rw [if_neg (by omega)]))) (by rw [e2]; rfl) (e3) ls (lv_sub hl [4, 5, 6, 1, 0] rfl)
                  · refine lv_aload_n (pc := 113) hx hb dX4_count_113 rfl (lv_at hl 2 rfl) ?_
                    refine va_get (D := D) (cl := vwCl) (ci := 4) (v := .ref (ad 2)) (C := RX4) (T := TX4) (N := 17) (pc := 114) hx hb hT inT4 hown hK.1 hP 0 rfl rfl 2 (by decide) (hT _ tw_339) (fun _ h9 => h9) rfl dX4_count_114 ?_
                    refine lv_iload (pc := 117) hx hb dX4_count_117 (lv_at hl 6 rfl) ?_
                    refine z_iald (pc := 119) hx hb hK hP 2 (u) (f := hr) rfl (by omega) (by omega) (by omega) dX4_count_119 ?_
                    have r_65 := hhr (u)
                    refine lv_goto (tgt := 148) (pc := 120) hx hb dX4_count_120 (by decide) ?_
                    refine z_iadd (pc := 148) hx hb dX4_count_148 ?_
                    refine lv_istore_n (lv' := [(3, .int (zi ((z1 + (hr (u)))))), (6, .int (zi (0))), (5, .int (zi ((ca (u))))), (0, .ref (ad 0)), (1, .int (zi (S))), (2, .int (zi (w))), (4, .int (zi (z2)))]) (pc := 149) hx hb dX4_count_149 rfl hl (by decide) rfl (fun ls hl => ?_)
                    refine lv_iinc (v := zi (z2 + 1)) (lv' := [(4, .int (zi ((z2 + 1)))), (3, .int (zi ((z1 + (hr (u)))))), (6, .int (zi (0))), (5, .int (zi ((ca (u))))), (0, .ref (ad 0)), (1, .int (zi (S))), (2, .int (zi (w)))]) (pc := 150) hx hb dX4_count_150 hl (k := 6) rfl (zi_add _ _) (by decide) rfl (fun ls hl => ?_)
                    refine lv_goto (tgt := 28) (pc := 153) hx hb dX4_count_153 (by decide) ?_
                    exact ih  _ _ (by first | (exfalso; omega) | (simp only [cCt]; rw [e1, if_pos (by assumption)]; unfold shareZ; repeat (first | rw [if_pos (by omega)] | rw [if_neg (by omega)]))) (by rw [e2]; rfl) (e3) ls (lv_sub hl [4, 5, 6, 1, 0] rfl)
                · refine lv_iload_n (pc := 86) hx hb dX4_count_86 rfl (lv_at hl 3 rfl) ?_
                  refine z_iconst (pc := 87) hx hb dX4_count_87 ?_
                  refine z_icmp_le (tgt := 103) (pc := 88) hx hb dX4_count_88 (by decide) (by omega) (by omega) (fun c_66 => ?_) (fun c_66 => ?_)
                  · refine z_iconst (pc := 103) hx hb dX4_count_103 ?_
                    refine lv_istore (lv' := [(6, .int (zi (0))), (5, .int (zi ((ca (u))))), (0, .ref (ad 0)), (1, .int (zi (S))), (2, .int (zi (w))), (3, .int (zi (z1))), (4, .int (zi (z2)))]) (pc := 104) hx hb dX4_count_104 hl (by decide) rfl (fun ls hl => ?_)
                    refine lv_iload_n (pc := 106) hx hb dX4_count_106 rfl (lv_at hl 5 rfl) ?_
                    refine lv_iload_n (pc := 107) hx hb dX4_count_107 rfl (lv_at hl 4 rfl) ?_
                    refine z_bipush (pc := 108) hx hb dX4_count_108 (by decide) ?_
                    refine z_icmp_ne (tgt := 123) (pc := 110) hx hb dX4_count_110 (by decide) (by omega) (by omega) (fun c_67 => ?_) (fun c_67 => ?_)
                    · refine lv_iload_n (pc := 123) hx hb dX4_count_123 rfl (lv_at hl 4 rfl) ?_
                      refine z_bipush (pc := 124) hx hb dX4_count_124 (by decide) ?_
                      refine z_icmp_ne (tgt := 138) (pc := 126) hx hb dX4_count_126 (by decide) (by omega) (by omega) (fun c_68 => ?_) (fun c_68 => ?_)
                      · refine lv_iload (pc := 138) hx hb dX4_count_138 (lv_at hl 0 rfl) ?_
                        refine z_if_eq (tgt := 147) (pc := 140) hx hb dX4_count_140 (by decide) (by omega) (fun c_69 => ?_) (fun c_69 => ?_)
                        · refine z_iconst (pc := 147) hx hb dX4_count_147 ?_
                          refine z_iadd (pc := 148) hx hb dX4_count_148 ?_
                          refine lv_istore_n (lv' := [(3, .int (zi ((z1 + 0)))), (6, .int (zi (0))), (5, .int (zi ((ca (u))))), (0, .ref (ad 0)), (1, .int (zi (S))), (2, .int (zi (w))), (4, .int (zi (z2)))]) (pc := 149) hx hb dX4_count_149 rfl hl (by decide) rfl (fun ls hl => ?_)
                          refine lv_iinc (v := zi (z2 + 1)) (lv' := [(4, .int (zi ((z2 + 1)))), (3, .int (zi ((z1 + 0)))), (6, .int (zi (0))), (5, .int (zi ((ca (u))))), (0, .ref (ad 0)), (1, .int (zi (S))), (2, .int (zi (w)))]) (pc := 150) hx hb dX4_count_150 hl (k := 6) rfl (zi_add _ _) (by decide) rfl (fun ls hl => ?_)
                          refine lv_goto (tgt := 28) (pc := 153) hx hb dX4_count_153 (by decide) ?_
                          exact ih  _ _ (by first | (exfalso; omega) | (simp only [cCt]; rw [e1, if_pos (by assumption)]; unfold shareZ; repeat (first | rw [if_pos (by omega)] | rw [if_neg (by omega)]))) (by rw [e2]; rfl) (e3) ls (lv_sub hl [4, 5, 6, 1, 0] rfl)
                        · refine z_iconst (pc := 143) hx hb dX4_count_143 ?_
                          refine lv_goto (tgt := 148) (pc := 144) hx hb dX4_count_144 (by decide) ?_
                          refine z_iadd (pc := 148) hx hb dX4_count_148 ?_
                          refine lv_istore_n (lv' := [(3, .int (zi ((z1 + 1)))), (6, .int (zi (0))), (5, .int (zi ((ca (u))))), (0, .ref (ad 0)), (1, .int (zi (S))), (2, .int (zi (w))), (4, .int (zi (z2)))]) (pc := 149) hx hb dX4_count_149 rfl hl (by decide) rfl (fun ls hl => ?_)
                          refine lv_iinc (v := zi (z2 + 1)) (lv' := [(4, .int (zi ((z2 + 1)))), (3, .int (zi ((z1 + 1)))), (6, .int (zi (0))), (5, .int (zi ((ca (u))))), (0, .ref (ad 0)), (1, .int (zi (S))), (2, .int (zi (w)))]) (pc := 150) hx hb dX4_count_150 hl (k := 6) rfl (zi_add _ _) (by decide) rfl (fun ls hl => ?_)
                          refine lv_goto (tgt := 28) (pc := 153) hx hb dX4_count_153 (by decide) ?_
                          exact ih  _ _ (by first | (exfalso; omega) | (simp only [cCt]; rw [e1, if_pos (by assumption)]; unfold shareZ; repeat (first | rw [if_pos (by omega)] | rw [if_neg (by omega)]))) (by rw [e2]; rfl) (e3) ls (lv_sub hl [4, 5, 6, 1, 0] rfl)
                      · refine lv_aload_n (pc := 129) hx hb dX4_count_129 rfl (lv_at hl 2 rfl) ?_
                        refine lv_iload (pc := 130) hx hb dX4_count_130 (lv_at hl 6 rfl) ?_
                        refine rd_V (pc := 132) hx hb hml hown hT hK (c_X4_useHour D cI cJ l ad n st hr ca sp k ts th pr hc lu ll up lo fr rr hv hU hsp (z2) (u) (by omega) (by omega)) ca_X4_useHour tw_425 hP 0 4 rfl rfl rfl ⟨Nat.le_of_ble_eq_true rfl, Nat.le_of_ble_eq_true rfl⟩ rfl hl.1 (As := [.int (zi (z2))]) (rest := [.int (zi (z1))]) rfl (Nat.le_of_ble_eq_true rfl) ⟨Nat.le_of_ble_eq_true rfl, Nat.le_of_ble_eq_true rfl⟩ dX4_count_132 ?_
                        refine lv_goto (tgt := 148) (pc := 135) hx hb dX4_count_135 (by decide) ?_
                        refine z_iadd (pc := 148) hx hb dX4_count_148 ?_
                        refine lv_istore_n (lv' := [(3, .int (zi ((z1 + (useZ st hr sp (u)))))), (6, .int (zi (0))), (5, .int (zi ((ca (u))))), (0, .ref (ad 0)), (1, .int (zi (S))), (2, .int (zi (w))), (4, .int (zi (z2)))]) (pc := 149) hx hb dX4_count_149 rfl hl (by decide) rfl (fun ls hl => ?_)
                        refine lv_iinc (v := zi (z2 + 1)) (lv' := [(4, .int (zi ((z2 + 1)))), (3, .int (zi ((z1 + (useZ st hr sp (u)))))), (6, .int (zi (0))), (5, .int (zi ((ca (u))))), (0, .ref (ad 0)), (1, .int (zi (S))), (2, .int (zi (w)))]) (pc := 150) hx hb dX4_count_150 hl (k := 6) rfl (zi_add _ _) (by decide) rfl (fun ls hl => ?_)
                        refine lv_goto (tgt := 28) (pc := 153) hx hb dX4_count_153 (by decide) ?_
                        exact ih  _ _ (by first | (exfalso; omega) | (simp only [cCt]; rw [e1, if_pos (by assumption)]; unfold shareZ; repeat (first | rw [if_pos (by omega)] | rw [if_neg (by omega)]))) (by rw [e2]; rfl) (e3) ls (lv_sub hl [4, 5, 6, 1, 0] rfl)
                    · refine lv_aload_n (pc := 113) hx hb dX4_count_113 rfl (lv_at hl 2 rfl) ?_
                      refine va_get (D := D) (cl := vwCl) (ci := 4) (v := .ref (ad 2)) (C := RX4) (T := TX4) (N := 17) (pc := 114) hx hb hT inT4 hown hK.1 hP 0 rfl rfl 2 (by decide) (hT _ tw_339) (fun _ h9 => h9) rfl dX4_count_114 ?_
                      refine lv_iload (pc := 117) hx hb dX4_count_117 (lv_at hl 6 rfl) ?_
                      refine z_iald (pc := 119) hx hb hK hP 2 (u) (f := hr) rfl (by omega) (by omega) (by omega) dX4_count_119 ?_
                      have r_70 := hhr (u)
                      refine lv_goto (tgt := 148) (pc := 120) hx hb dX4_count_120 (by decide) ?_
                      refine z_iadd (pc := 148) hx hb dX4_count_148 ?_
                      refine lv_istore_n (lv' := [(3, .int (zi ((z1 + (hr (u)))))), (6, .int (zi (0))), (5, .int (zi ((ca (u))))), (0, .ref (ad 0)), (1, .int (zi (S))), (2, .int (zi (w))), (4, .int (zi (z2)))]) (pc := 149) hx hb dX4_count_149 rfl hl (by decide) rfl (fun ls hl => ?_)
                      refine lv_iinc (v := zi (z2 + 1)) (lv' := [(4, .int (zi ((z2 + 1)))), (3, .int (zi ((z1 + (hr (u)))))), (6, .int (zi (0))), (5, .int (zi ((ca (u))))), (0, .ref (ad 0)), (1, .int (zi (S))), (2, .int (zi (w)))]) (pc := 150) hx hb dX4_count_150 hl (k := 6) rfl (zi_add _ _) (by decide) rfl (fun ls hl => ?_)
                      refine lv_goto (tgt := 28) (pc := 153) hx hb dX4_count_153 (by decide) ?_
                      exact ih  _ _ (by first | (exfalso; omega) | (simp only [cCt]; rw [e1, if_pos (by assumption)]; unfold shareZ; repeat (first | rw [if_pos (by omega)] | rw [if_neg (by omega)]))) (by rw [e2]; rfl) (e3) ls (lv_sub hl [4, 5, 6, 1, 0] rfl)
                  · refine lv_iload (pc := 91) hx hb dX4_count_91 (lv_at hl 0 rfl) ?_
                    refine lv_iload_n (pc := 93) hx hb dX4_count_93 rfl (lv_at hl 3 rfl) ?_
                    refine z_iconst (pc := 94) hx hb dX4_count_94 ?_
                    refine z_isub (pc := 95) hx hb dX4_count_95 ?_
                    refine z_icmp_ne (tgt := 103) (pc := 96) hx hb dX4_count_96 (by decide) (by omega) (by omega) (fun c_71 => ?_) (fun c_71 => ?_)
                    · refine z_iconst (pc := 103) hx hb dX4_count_103 ?_
                      refine lv_istore (lv' := [(6, .int (zi (0))), (5, .int (zi ((ca (u))))), (0, .ref (ad 0)), (1, .int (zi (S))), (2, .int (zi (w))), (3, .int (zi (z1))), (4, .int (zi (z2)))]) (pc := 104) hx hb dX4_count_104 hl (by decide) rfl (fun ls hl => ?_)
                      refine lv_iload_n (pc := 106) hx hb dX4_count_106 rfl (lv_at hl 5 rfl) ?_
                      refine lv_iload_n (pc := 107) hx hb dX4_count_107 rfl (lv_at hl 4 rfl) ?_
                      refine z_bipush (pc := 108) hx hb dX4_count_108 (by decide) ?_
                      refine z_icmp_ne (tgt := 123) (pc := 110) hx hb dX4_count_110 (by decide) (by omega) (by omega) (fun c_72 => ?_) (fun c_72 => ?_)
                      · refine lv_iload_n (pc := 123) hx hb dX4_count_123 rfl (lv_at hl 4 rfl) ?_
                        refine z_bipush (pc := 124) hx hb dX4_count_124 (by decide) ?_
                        refine z_icmp_ne (tgt := 138) (pc := 126) hx hb dX4_count_126 (by decide) (by omega) (by omega) (fun c_73 => ?_) (fun c_73 => ?_)
                        · refine lv_iload (pc := 138) hx hb dX4_count_138 (lv_at hl 0 rfl) ?_
                          refine z_if_eq (tgt := 147) (pc := 140) hx hb dX4_count_140 (by decide) (by omega) (fun c_74 => ?_) (fun c_74 => ?_)
                          · refine z_iconst (pc := 147) hx hb dX4_count_147 ?_
                            refine z_iadd (pc := 148) hx hb dX4_count_148 ?_
                            refine lv_istore_n (lv' := [(3, .int (zi ((z1 + 0)))), (6, .int (zi (0))), (5, .int (zi ((ca (u))))), (0, .ref (ad 0)), (1, .int (zi (S))), (2, .int (zi (w))), (4, .int (zi (z2)))]) (pc := 149) hx hb dX4_count_149 rfl hl (by decide) rfl (fun ls hl => ?_)
                            refine lv_iinc (v := zi (z2 + 1)) (lv' := [(4, .int (zi ((z2 + 1)))), (3, .int (zi ((z1 + 0)))), (6, .int (zi (0))), (5, .int (zi ((ca (u))))), (0, .ref (ad 0)), (1, .int (zi (S))), (2, .int (zi (w)))]) (pc := 150) hx hb dX4_count_150 hl (k := 6) rfl (zi_add _ _) (by decide) rfl (fun ls hl => ?_)
                            refine lv_goto (tgt := 28) (pc := 153) hx hb dX4_count_153 (by decide) ?_
                            exact ih  _ _ (by first | (exfalso; omega) | (simp only [cCt]; rw [e1, if_pos (by assumption)]; unfold shareZ; repeat (first | rw [if_pos (by omega)] | rw [if_neg (by omega)]))) (by rw [e2]; rfl) (e3) ls (lv_sub hl [4, 5, 6, 1, 0] rfl)
                          · refine z_iconst (pc := 143) hx hb dX4_count_143 ?_
                            refine lv_goto (tgt := 148) (pc := 144) hx hb dX4_count_144 (by decide) ?_
                            refine z_iadd (pc := 148) hx hb dX4_count_148 ?_
                            refine lv_istore_n (lv' := [(3, .int (zi ((z1 + 1)))), (6, .int (zi (0))), (5, .int (zi ((ca (u))))), (0, .ref (ad 0)), (1, .int (zi (S))), (2, .int (zi (w))), (4, .int (zi (z2)))]) (pc := 149) hx hb dX4_count_149 rfl hl (by decide) rfl (fun ls hl => ?_)
                            refine lv_iinc (v := zi (z2 + 1)) (lv' := [(4, .int (zi ((z2 + 1)))), (3, .int (zi ((z1 + 1)))), (6, .int (zi (0))), (5, .int (zi ((ca (u))))), (0, .ref (ad 0)), (1, .int (zi (S))), (2, .int (zi (w)))]) (pc := 150) hx hb dX4_count_150 hl (k := 6) rfl (zi_add _ _) (by decide) rfl (fun ls hl => ?_)
                            refine lv_goto (tgt := 28) (pc := 153) hx hb dX4_count_153 (by decide) ?_
                            exact ih  _ _ (by first | (exfalso; omega) | (simp only [cCt]; rw [e1, if_pos (by assumption)]; unfold shareZ; repeat (first | rw [if_pos (by omega)] | rw [if_neg (by omega)]))) (by rw [e2]; rfl) (e3) ls (lv_sub hl [4, 5, 6, 1, 0] rfl)
                        · refine lv_aload_n (pc := 129) hx hb dX4_count_129 rfl (lv_at hl 2 rfl) ?_
                          refine lv_iload (pc := 130) hx hb dX4_count_130 (lv_at hl 6 rfl) ?_
                          refine rd_V (pc := 132) hx hb hml hown hT hK (c_X4_useHour D cI cJ l ad n st hr ca sp k ts th pr hc lu ll up lo fr rr hv hU hsp (z2) (u) (by omega) (by omega)) ca_X4_useHour tw_425 hP 0 4 rfl rfl rfl ⟨Nat.le_of_ble_eq_true rfl, Nat.le_of_ble_eq_true rfl⟩ rfl hl.1 (As := [.int (zi (z2))]) (rest := [.int (zi (z1))]) rfl (Nat.le_of_ble_eq_true rfl) ⟨Nat.le_of_ble_eq_true rfl, Nat.le_of_ble_eq_true rfl⟩ dX4_count_132 ?_
                          refine lv_goto (tgt := 148) (pc := 135) hx hb dX4_count_135 (by decide) ?_
                          refine z_iadd (pc := 148) hx hb dX4_count_148 ?_
                          refine lv_istore_n (lv' := [(3, .int (zi ((z1 + (useZ st hr sp (u)))))), (6, .int (zi (0))), (5, .int (zi ((ca (u))))), (0, .ref (ad 0)), (1, .int (zi (S))), (2, .int (zi (w))), (4, .int (zi (z2)))]) (pc := 149) hx hb dX4_count_149 rfl hl (by decide) rfl (fun ls hl => ?_)
                          refine lv_iinc (v := zi (z2 + 1)) (lv' := [(4, .int (zi ((z2 + 1)))), (3, .int (zi ((z1 + (useZ st hr sp (u)))))), (6, .int (zi (0))), (5, .int (zi ((ca (u))))), (0, .ref (ad 0)), (1, .int (zi (S))), (2, .int (zi (w)))]) (pc := 150) hx hb dX4_count_150 hl (k := 6) rfl (zi_add _ _) (by decide) rfl (fun ls hl => ?_)
                          refine lv_goto (tgt := 28) (pc := 153) hx hb dX4_count_153 (by decide) ?_
                          exact ih  _ _ (by first | (exfalso; omega) | (simp only [cCt]; rw [e1, if_pos (by assumption)]; unfold shareZ; repeat (first | rw [if_pos (by omega)] | rw [if_neg (by omega)]))) (by rw [e2]; rfl) (e3) ls (lv_sub hl [4, 5, 6, 1, 0] rfl)
                      · refine lv_aload_n (pc := 113) hx hb dX4_count_113 rfl (lv_at hl 2 rfl) ?_
                        refine va_get (D := D) (cl := vwCl) (ci := 4) (v := .ref (ad 2)) (C := RX4) (T := TX4) (N := 17) (pc := 114) hx hb hT inT4 hown hK.1 hP 0 rfl rfl 2 (by decide) (hT _ tw_339) (fun _ h9 => h9) rfl dX4_count_114 ?_
                        refine lv_iload (pc := 117) hx hb dX4_count_117 (lv_at hl 6 rfl) ?_
                        refine z_iald (pc := 119) hx hb hK hP 2 (u) (f := hr) rfl (by omega) (by omega) (by omega) dX4_count_119 ?_
                        have r_75 := hhr (u)
                        refine lv_goto (tgt := 148) (pc := 120) hx hb dX4_count_120 (by decide) ?_
                        refine z_iadd (pc := 148) hx hb dX4_count_148 ?_
                        refine lv_istore_n (lv' := [(3, .int (zi ((z1 + (hr (u)))))), (6, .int (zi (0))), (5, .int (zi ((ca (u))))), (0, .ref (ad 0)), (1, .int (zi (S))), (2, .int (zi (w))), (4, .int (zi (z2)))]) (pc := 149) hx hb dX4_count_149 rfl hl (by decide) rfl (fun ls hl => ?_)
                        refine lv_iinc (v := zi (z2 + 1)) (lv' := [(4, .int (zi ((z2 + 1)))), (3, .int (zi ((z1 + (hr (u)))))), (6, .int (zi (0))), (5, .int (zi ((ca (u))))), (0, .ref (ad 0)), (1, .int (zi (S))), (2, .int (zi (w)))]) (pc := 150) hx hb dX4_count_150 hl (k := 6) rfl (zi_add _ _) (by decide) rfl (fun ls hl => ?_)
                        refine lv_goto (tgt := 28) (pc := 153) hx hb dX4_count_153 (by decide) ?_
                        exact ih  _ _ (by first | (exfalso; omega) | (simp only [cCt]; rw [e1, if_pos (by assumption)]; unfold shareZ; repeat (first | rw [if_pos (by omega)] | rw [if_neg (by omega)]))) (by rw [e2]; rfl) (e3) ls (lv_sub hl [4, 5, 6, 1, 0] rfl)
                    · refine z_iconst (pc := 99) hx hb dX4_count_99 ?_
                      refine lv_goto (tgt := 104) (pc := 100) hx hb dX4_count_100 (by decide) ?_
                      refine lv_istore (lv' := [(6, .int (zi (1))), (5, .int (zi ((ca (u))))), (0, .ref (ad 0)), (1, .int (zi (S))), (2, .int (zi (w))), (3, .int (zi (z1))), (4, .int (zi (z2)))]) (pc := 104) hx hb dX4_count_104 hl (by decide) rfl (fun ls hl => ?_)
                      refine lv_iload_n (pc := 106) hx hb dX4_count_106 rfl (lv_at hl 5 rfl) ?_
                      refine lv_iload_n (pc := 107) hx hb dX4_count_107 rfl (lv_at hl 4 rfl) ?_
                      refine z_bipush (pc := 108) hx hb dX4_count_108 (by decide) ?_
                      refine z_icmp_ne (tgt := 123) (pc := 110) hx hb dX4_count_110 (by decide) (by omega) (by omega) (fun c_76 => ?_) (fun c_76 => ?_)
                      · refine lv_iload_n (pc := 123) hx hb dX4_count_123 rfl (lv_at hl 4 rfl) ?_
                        refine z_bipush (pc := 124) hx hb dX4_count_124 (by decide) ?_
                        refine z_icmp_ne (tgt := 138) (pc := 126) hx hb dX4_count_126 (by decide) (by omega) (by omega) (fun c_77 => ?_) (fun c_77 => ?_)
                        · refine lv_iload (pc := 138) hx hb dX4_count_138 (lv_at hl 0 rfl) ?_
                          refine z_if_eq (tgt := 147) (pc := 140) hx hb dX4_count_140 (by decide) (by omega) (fun c_78 => ?_) (fun c_78 => ?_)
                          · refine z_iconst (pc := 147) hx hb dX4_count_147 ?_
                            refine z_iadd (pc := 148) hx hb dX4_count_148 ?_
                            refine lv_istore_n (lv' := [(3, .int (zi ((z1 + 0)))), (6, .int (zi (1))), (5, .int (zi ((ca (u))))), (0, .ref (ad 0)), (1, .int (zi (S))), (2, .int (zi (w))), (4, .int (zi (z2)))]) (pc := 149) hx hb dX4_count_149 rfl hl (by decide) rfl (fun ls hl => ?_)
                            refine lv_iinc (v := zi (z2 + 1)) (lv' := [(4, .int (zi ((z2 + 1)))), (3, .int (zi ((z1 + 0)))), (6, .int (zi (1))), (5, .int (zi ((ca (u))))), (0, .ref (ad 0)), (1, .int (zi (S))), (2, .int (zi (w)))]) (pc := 150) hx hb dX4_count_150 hl (k := 6) rfl (zi_add _ _) (by decide) rfl (fun ls hl => ?_)
                            refine lv_goto (tgt := 28) (pc := 153) hx hb dX4_count_153 (by decide) ?_
                            exact ih  _ _ (by first | (exfalso; omega) | (simp only [cCt]; rw [e1, if_pos (by assumption)]; unfold shareZ; repeat (first | rw [if_pos (by omega)] | rw [if_neg (by omega)]))) (by rw [e2]; rfl) (e3) ls (lv_sub hl [4, 5, 6, 1, 0] rfl)
                          · refine z_iconst (pc := 143) hx hb dX4_count_143 ?_
                            refine lv_goto (tgt := 148) (pc := 144) hx hb dX4_count_144 (by decide) ?_
                            refine z_iadd (pc := 148) hx hb dX4_count_148 ?_
                            refine lv_istore_n (lv' := [(3, .int (zi ((z1 + 1)))), (6, .int (zi (1))), (5, .int (zi ((ca (u))))), (0, .ref (ad 0)), (1, .int (zi (S))), (2, .int (zi (w))), (4, .int (zi (z2)))]) (pc := 149) hx hb dX4_count_149 rfl hl (by decide) rfl (fun ls hl => ?_)
                            refine lv_iinc (v := zi (z2 + 1)) (lv' := [(4, .int (zi ((z2 + 1)))), (3, .int (zi ((z1 + 1)))), (6, .int (zi (1))), (5, .int (zi ((ca (u))))), (0, .ref (ad 0)), (1, .int (zi (S))), (2, .int (zi (w)))]) (pc := 150) hx hb dX4_count_150 hl (k := 6) rfl (zi_add _ _) (by decide) rfl (fun ls hl => ?_)
                            refine lv_goto (tgt := 28) (pc := 153) hx hb dX4_count_153 (by decide) ?_
                            exact ih  _ _ (by first | (exfalso; omega) | (simp only [cCt]; rw [e1, if_pos (by assumption)]; unfold shareZ; repeat (first | rw [if_pos (by omega)] | rw [if_neg (by omega)]))) (by rw [e2]; rfl) (e3) ls (lv_sub hl [4, 5, 6, 1, 0] rfl)
                        · refine lv_aload_n (pc := 129) hx hb dX4_count_129 rfl (lv_at hl 2 rfl) ?_
                          refine lv_iload (pc := 130) hx hb dX4_count_130 (lv_at hl 6 rfl) ?_
                          refine rd_V (pc := 132) hx hb hml hown hT hK (c_X4_useHour D cI cJ l ad n st hr ca sp k ts th pr hc lu ll up lo fr rr hv hU hsp (z2) (u) (by omega) (by omega)) ca_X4_useHour tw_425 hP 0 4 rfl rfl rfl ⟨Nat.le_of_ble_eq_true rfl, Nat.le_of_ble_eq_true rfl⟩ rfl hl.1 (As := [.int (zi (z2))]) (rest := [.int (zi (z1))]) rfl (Nat.le_of_ble_eq_true rfl) ⟨Nat.le_of_ble_eq_true rfl, Nat.le_of_ble_eq_true rfl⟩ dX4_count_132 ?_
                          refine lv_goto (tgt := 148) (pc := 135) hx hb dX4_count_135 (by decide) ?_
                          refine z_iadd (pc := 148) hx hb dX4_count_148 ?_
                          refine lv_istore_n (lv' := [(3, .int (zi ((z1 + (useZ st hr sp (u)))))), (6, .int (zi (1))), (5, .int (zi ((ca (u))))), (0, .ref (ad 0)), (1, .int (zi (S))), (2, .int (zi (w))), (4, .int (zi (z2)))]) (pc := 149) hx hb dX4_count_149 rfl hl (by decide) rfl (fun ls hl => ?_)
                          refine lv_iinc (v := zi (z2 + 1)) (lv' := [(4, .int (zi ((z2 + 1)))), (3, .int (zi ((z1 + (useZ st hr sp (u)))))), (6, .int (zi (1))), (5, .int (zi ((ca (u))))), (0, .ref (ad 0)), (1, .int (zi (S))), (2, .int (zi (w)))]) (pc := 150) hx hb dX4_count_150 hl (k := 6) rfl (zi_add _ _) (by decide) rfl (fun ls hl => ?_)
                          refine lv_goto (tgt := 28) (pc := 153) hx hb dX4_count_153 (by decide) ?_
                          exact ih  _ _ (by first | (exfalso; omega) | (simp only [cCt]; rw [e1, if_pos (by assumption)]; unfold shareZ; repeat (first | rw [if_pos (by omega)] | rw [if_neg (by omega)]))) (by rw [e2]; rfl) (e3) ls (lv_sub hl [4, 5, 6, 1, 0] rfl)
                      · refine lv_aload_n (pc := 113) hx hb dX4_count_113 rfl (lv_at hl 2 rfl) ?_
                        refine va_get (D := D) (cl := vwCl) (ci := 4) (v := .ref (ad 2)) (C := RX4) (T := TX4) (N := 17) (pc := 114) hx hb hT inT4 hown hK.1 hP 0 rfl rfl 2 (by decide) (hT _ tw_339) (fun _ h9 => h9) rfl dX4_count_114 ?_
                        refine lv_iload (pc := 117) hx hb dX4_count_117 (lv_at hl 6 rfl) ?_
                        refine z_iald (pc := 119) hx hb hK hP 2 (u) (f := hr) rfl (by omega) (by omega) (by omega) dX4_count_119 ?_
                        have r_79 := hhr (u)
                        refine lv_goto (tgt := 148) (pc := 120) hx hb dX4_count_120 (by decide) ?_
                        refine z_iadd (pc := 148) hx hb dX4_count_148 ?_
                        refine lv_istore_n (lv' := [(3, .int (zi ((z1 + (hr (u)))))), (6, .int (zi (1))), (5, .int (zi ((ca (u))))), (0, .ref (ad 0)), (1, .int (zi (S))), (2, .int (zi (w))), (4, .int (zi (z2)))]) (pc := 149) hx hb dX4_count_149 rfl hl (by decide) rfl (fun ls hl => ?_)
                        refine lv_iinc (v := zi (z2 + 1)) (lv' := [(4, .int (zi ((z2 + 1)))), (3, .int (zi ((z1 + (hr (u)))))), (6, .int (zi (1))), (5, .int (zi ((ca (u))))), (0, .ref (ad 0)), (1, .int (zi (S))), (2, .int (zi (w)))]) (pc := 150) hx hb dX4_count_150 hl (k := 6) rfl (zi_add _ _) (by decide) rfl (fun ls hl => ?_)
                        refine lv_goto (tgt := 28) (pc := 153) hx hb dX4_count_153 (by decide) ?_
                        exact ih  _ _ (by first | (exfalso; omega) | (simp only [cCt]; rw [e1, if_pos (by assumption)]; unfold shareZ; repeat (first | rw [if_pos (by omega)] | rw [if_neg (by omega)]))) (by rw [e2]; rfl) (e3) ls (lv_sub hl [4, 5, 6, 1, 0] rfl)
              · refine lv_iload (pc := 75) hx hb dX4_count_75 (lv_at hl 0 rfl) ?_
                refine z_if_lt (tgt := 99) (pc := 77) hx hb dX4_count_77 (by decide) (by omega) (fun c_80 => ?_) (fun c_80 => ?_)
                · refine z_iconst (pc := 99) hx hb dX4_count_99 ?_
                  refine lv_goto (tgt := 104) (pc := 100) hx hb dX4_count_100 (by decide) ?_
                  refine lv_istore (lv' := [(6, .int (zi (1))), (5, .int (zi ((ca (u))))), (0, .ref (ad 0)), (1, .int (zi (S))), (2, .int (zi (w))), (3, .int (zi (z1))), (4, .int (zi (z2)))]) (pc := 104) hx hb dX4_count_104 hl (by decide) rfl (fun ls hl => ?_)
                  refine lv_iload_n (pc := 106) hx hb dX4_count_106 rfl (lv_at hl 5 rfl) ?_
                  refine lv_iload_n (pc := 107) hx hb dX4_count_107 rfl (lv_at hl 4 rfl) ?_
                  refine z_bipush (pc := 108) hx hb dX4_count_108 (by decide) ?_
                  refine z_icmp_ne (tgt := 123) (pc := 110) hx hb dX4_count_110 (by decide) (by omega) (by omega) (fun c_81 => ?_) (fun c_81 => ?_)
                  · refine lv_iload_n (pc := 123) hx hb dX4_count_123 rfl (lv_at hl 4 rfl) ?_
                    refine z_bipush (pc := 124) hx hb dX4_count_124 (by decide) ?_
                    refine z_icmp_ne (tgt := 138) (pc := 126) hx hb dX4_count_126 (by decide) (by omega) (by omega) (fun c_82 => ?_) (fun c_82 => ?_)
                    · refine lv_iload (pc := 138) hx hb dX4_count_138 (lv_at hl 0 rfl) ?_
                      refine z_if_eq (tgt := 147) (pc := 140) hx hb dX4_count_140 (by decide) (by omega) (fun c_83 => ?_) (fun c_83 => ?_)
                      · refine z_iconst (pc := 147) hx hb dX4_count_147 ?_
                        refine z_iadd (pc := 148) hx hb dX4_count_148 ?_
                        refine lv_istore_n (lv' := [(3, .int (zi ((z1 + 0)))), (6, .int (zi (1))), (5, .int (zi ((ca (u))))), (0, .ref (ad 0)), (1, .int (zi (S))), (2, .int (zi (w))), (4, .int (zi (z2)))]) (pc := 149) hx hb dX4_count_149 rfl hl (by decide) rfl (fun ls hl => ?_)
                        refine lv_iinc (v := zi (z2 + 1)) (lv' := [(4, .int (zi ((z2 + 1)))), (3, .int (zi ((z1 + 0)))), (6, .int (zi (1))), (5, .int (zi ((ca (u))))), (0, .ref (ad 0)), (1, .int (zi (S))), (2, .int (zi (w)))]) (pc := 150) hx hb dX4_count_150 hl (k := 6) rfl (zi_add _ _) (by decide) rfl (fun ls hl => ?_)
                        refine lv_goto (tgt := 28) (pc := 153) hx hb dX4_count_153 (by decide) ?_
                        exact ih  _ _ (by first | (exfalso; omega) | (simp only [cCt]; rw [e1, if_pos (by assumption)]; unfold shareZ; repeat (first | rw [if_pos (by omega)] | rw [if_neg (by omega)]))) (by rw [e2]; rfl) (e3) ls (lv_sub hl [4, 5, 6, 1, 0] rfl)
                      · refine z_iconst (pc := 143) hx hb dX4_count_143 ?_
                        refine lv_goto (tgt := 148) (pc := 144) hx hb dX4_count_144 (by decide) ?_
                        refine z_iadd (pc := 148) hx hb dX4_count_148 ?_
                        refine lv_istore_n (lv' := [(3, .int (zi ((z1 + 1)))), (6, .int (zi (1))), (5, .int (zi ((ca (u))))), (0, .ref (ad 0)), (1, .int (zi (S))), (2, .int (zi (w))), (4, .int (zi (z2)))]) (pc := 149) hx hb dX4_count_149 rfl hl (by decide) rfl (fun ls hl => ?_)
                        refine lv_iinc (v := zi (z2 + 1)) (lv' := [(4, .int (zi ((z2 + 1)))), (3, .int (zi ((z1 + 1)))), (6, .int (zi (1))), (5, .int (zi ((ca (u))))), (0, .ref (ad 0)), (1, .int (zi (S))), (2, .int (zi (w)))]) (pc := 150) hx hb dX4_count_150 hl (k := 6) rfl (zi_add _ _) (by decide) rfl (fun ls hl => ?_)
                        refine lv_goto (tgt := 28) (pc := 153) hx hb dX4_count_153 (by decide) ?_
                        exact ih  _ _ (by first | (exfalso; omega) | (simp only [cCt]; rw [e1, if_pos (by assumption)]; unfold shareZ; repeat (first | rw [if_pos (by omega)] | rw [if_neg (by omega)]))) (by rw [e2]; rfl) (e3) ls (lv_sub hl [4, 5, 6, 1, 0] rfl)
                    · refine lv_aload_n (pc := 129) hx hb dX4_count_129 rfl (lv_at hl 2 rfl) ?_
                      refine lv_iload (pc := 130) hx hb dX4_count_130 (lv_at hl 6 rfl) ?_
                      refine rd_V (pc := 132) hx hb hml hown hT hK (c_X4_useHour D cI cJ l ad n st hr ca sp k ts th pr hc lu ll up lo fr rr hv hU hsp (z2) (u) (by omega) (by omega)) ca_X4_useHour tw_425 hP 0 4 rfl rfl rfl ⟨Nat.le_of_ble_eq_true rfl, Nat.le_of_ble_eq_true rfl⟩ rfl hl.1 (As := [.int (zi (z2))]) (rest := [.int (zi (z1))]) rfl (Nat.le_of_ble_eq_true rfl) ⟨Nat.le_of_ble_eq_true rfl, Nat.le_of_ble_eq_true rfl⟩ dX4_count_132 ?_
                      refine lv_goto (tgt := 148) (pc := 135) hx hb dX4_count_135 (by decide) ?_
                      refine z_iadd (pc := 148) hx hb dX4_count_148 ?_
                      refine lv_istore_n (lv' := [(3, .int (zi ((z1 + (useZ st hr sp (u)))))), (6, .int (zi (1))), (5, .int (zi ((ca (u))))), (0, .ref (ad 0)), (1, .int (zi (S))), (2, .int (zi (w))), (4, .int (zi (z2)))]) (pc := 149) hx hb dX4_count_149 rfl hl (by decide) rfl (fun ls hl => ?_)
                      refine lv_iinc (v := zi (z2 + 1)) (lv' := [(4, .int (zi ((z2 + 1)))), (3, .int (zi ((z1 + (useZ st hr sp (u)))))), (6, .int (zi (1))), (5, .int (zi ((ca (u))))), (0, .ref (ad 0)), (1, .int (zi (S))), (2, .int (zi (w)))]) (pc := 150) hx hb dX4_count_150 hl (k := 6) rfl (zi_add _ _) (by decide) rfl (fun ls hl => ?_)
                      refine lv_goto (tgt := 28) (pc := 153) hx hb dX4_count_153 (by decide) ?_
                      exact ih  _ _ (by first | (exfalso; omega) | (simp only [cCt]; rw [e1, if_pos (by assumption)]; unfold shareZ; repeat (first | rw [if_pos (by omega)] | rw [if_neg (by omega)]))) (by rw [e2]; rfl) (e3) ls (lv_sub hl [4, 5, 6, 1, 0] rfl)
                  · refine lv_aload_n (pc := 113) hx hb dX4_count_113 rfl (lv_at hl 2 rfl) ?_
                    refine va_get (D := D) (cl := vwCl) (ci := 4) (v := .ref (ad 2)) (C := RX4) (T := TX4) (N := 17) (pc := 114) hx hb hT inT4 hown hK.1 hP 0 rfl rfl 2 (by decide) (hT _ tw_339) (fun _ h9 => h9) rfl dX4_count_114 ?_
                    refine lv_iload (pc := 117) hx hb dX4_count_117 (lv_at hl 6 rfl) ?_
                    refine z_iald (pc := 119) hx hb hK hP 2 (u) (f := hr) rfl (by omega) (by omega) (by omega) dX4_count_119 ?_
                    have r_84 := hhr (u)
                    refine lv_goto (tgt := 148) (pc := 120) hx hb dX4_count_120 (by decide) ?_
                    refine z_iadd (pc := 148) hx hb dX4_count_148 ?_
                    refine lv_istore_n (lv' := [(3, .int (zi ((z1 + (hr (u)))))), (6, .int (zi (1))), (5, .int (zi ((ca (u))))), (0, .ref (ad 0)), (1, .int (zi (S))), (2, .int (zi (w))), (4, .int (zi (z2)))]) (pc := 149) hx hb dX4_count_149 rfl hl (by decide) rfl (fun ls hl => ?_)
                    refine lv_iinc (v := zi (z2 + 1)) (lv' := [(4, .int (zi ((z2 + 1)))), (3, .int (zi ((z1 + (hr (u)))))), (6, .int (zi (1))), (5, .int (zi ((ca (u))))), (0, .ref (ad 0)), (1, .int (zi (S))), (2, .int (zi (w)))]) (pc := 150) hx hb dX4_count_150 hl (k := 6) rfl (zi_add _ _) (by decide) rfl (fun ls hl => ?_)
                    refine lv_goto (tgt := 28) (pc := 153) hx hb dX4_count_153 (by decide) ?_
                    exact ih  _ _ (by first | (exfalso; omega) | (simp only [cCt]; rw [e1, if_pos (by assumption)]; unfold shareZ; repeat (first | rw [if_pos (by omega)] | rw [if_neg (by omega)]))) (by rw [e2]; rfl) (e3) ls (lv_sub hl [4, 5, 6, 1, 0] rfl)
                · refine lv_iload_n (pc := 80) hx hb dX4_count_80 rfl (lv_at hl 3 rfl) ?_
                  refine z_bipush (pc := 81) hx hb dX4_count_81 (by decide) ?_
                  refine z_icmp_ge (tgt := 103) (pc := 83) hx hb dX4_count_83 (by decide) (by omega) (by omega) (fun c_85 => ?_) (fun c_85 => ?_)
                  · refine z_iconst (pc := 103) hx hb dX4_count_103 ?_
                    refine lv_istore (lv' := [(6, .int (zi (0))), (5, .int (zi ((ca (u))))), (0, .ref (ad 0)), (1, .int (zi (S))), (2, .int (zi (w))), (3, .int (zi (z1))), (4, .int (zi (z2)))]) (pc := 104) hx hb dX4_count_104 hl (by decide) rfl (fun ls hl => ?_)
                    refine lv_iload_n (pc := 106) hx hb dX4_count_106 rfl (lv_at hl 5 rfl) ?_
                    refine lv_iload_n (pc := 107) hx hb dX4_count_107 rfl (lv_at hl 4 rfl) ?_
                    refine z_bipush (pc := 108) hx hb dX4_count_108 (by decide) ?_
                    refine z_icmp_ne (tgt := 123) (pc := 110) hx hb dX4_count_110 (by decide) (by omega) (by omega) (fun c_86 => ?_) (fun c_86 => ?_)
                    · refine lv_iload_n (pc := 123) hx hb dX4_count_123 rfl (lv_at hl 4 rfl) ?_
                      refine z_bipush (pc := 124) hx hb dX4_count_124 (by decide) ?_
                      refine z_icmp_ne (tgt := 138) (pc := 126) hx hb dX4_count_126 (by decide) (by omega) (by omega) (fun c_87 => ?_) (fun c_87 => ?_)
                      · refine lv_iload (pc := 138) hx hb dX4_count_138 (lv_at hl 0 rfl) ?_
                        refine z_if_eq (tgt := 147) (pc := 140) hx hb dX4_count_140 (by decide) (by omega) (fun c_88 => ?_) (fun c_88 => ?_)
                        · refine z_iconst (pc := 147) hx hb dX4_count_147 ?_
                          refine z_iadd (pc := 148) hx hb dX4_count_148 ?_
                          refine lv_istore_n (lv' := [(3, .int (zi ((z1 + 0)))), (6, .int (zi (0))), (5, .int (zi ((ca (u))))), (0, .ref (ad 0)), (1, .int (zi (S))), (2, .int (zi (w))), (4, .int (zi (z2)))]) (pc := 149) hx hb dX4_count_149 rfl hl (by decide) rfl (fun ls hl => ?_)
                          refine lv_iinc (v := zi (z2 + 1)) (lv' := [(4, .int (zi ((z2 + 1)))), (3, .int (zi ((z1 + 0)))), (6, .int (zi (0))), (5, .int (zi ((ca (u))))), (0, .ref (ad 0)), (1, .int (zi (S))), (2, .int (zi (w)))]) (pc := 150) hx hb dX4_count_150 hl (k := 6) rfl (zi_add _ _) (by decide) rfl (fun ls hl => ?_)
                          refine lv_goto (tgt := 28) (pc := 153) hx hb dX4_count_153 (by decide) ?_
                          exact ih  _ _ (by first | (exfalso; omega) | (simp only [cCt]; rw [e1, if_pos (by assumption)]; unfold shareZ; repeat (first | rw [if_pos (by omega)] | rw [if_neg (by omega)]))) (by rw [e2]; rfl) (e3) ls (lv_sub hl [4, 5, 6, 1, 0] rfl)
                        · refine z_iconst (pc := 143) hx hb dX4_count_143 ?_
                          refine lv_goto (tgt := 148) (pc := 144) hx hb dX4_count_144 (by decide) ?_
                          refine z_iadd (pc := 148) hx hb dX4_count_148 ?_
                          refine lv_istore_n (lv' := [(3, .int (zi ((z1 + 1)))), (6, .int (zi (0))), (5, .int (zi ((ca (u))))), (0, .ref (ad 0)), (1, .int (zi (S))), (2, .int (zi (w))), (4, .int (zi (z2)))]) (pc := 149) hx hb dX4_count_149 rfl hl (by decide) rfl (fun ls hl => ?_)
                          refine lv_iinc (v := zi (z2 + 1)) (lv' := [(4, .int (zi ((z2 + 1)))), (3, .int (zi ((z1 + 1)))), (6, .int (zi (0))), (5, .int (zi ((ca (u))))), (0, .ref (ad 0)), (1, .int (zi (S))), (2, .int (zi (w)))]) (pc := 150) hx hb dX4_count_150 hl (k := 6) rfl (zi_add _ _) (by decide) rfl (fun ls hl => ?_)
                          refine lv_goto (tgt := 28) (pc := 153) hx hb dX4_count_153 (by decide) ?_
                          exact ih  _ _ (by first | (exfalso; omega) | (simp only [cCt]; rw [e1, if_pos (by assumption)]; unfold shareZ; repeat (first | rw [if_pos (by omega)] | rw [if_neg (by omega)]))) (by rw [e2]; rfl) (e3) ls (lv_sub hl [4, 5, 6, 1, 0] rfl)
                      · refine lv_aload_n (pc := 129) hx hb dX4_count_129 rfl (lv_at hl 2 rfl) ?_
                        refine lv_iload (pc := 130) hx hb dX4_count_130 (lv_at hl 6 rfl) ?_
                        refine rd_V (pc := 132) hx hb hml hown hT hK (c_X4_useHour D cI cJ l ad n st hr ca sp k ts th pr hc lu ll up lo fr rr hv hU hsp (z2) (u) (by omega) (by omega)) ca_X4_useHour tw_425 hP 0 4 rfl rfl rfl ⟨Nat.le_of_ble_eq_true rfl, Nat.le_of_ble_eq_true rfl⟩ rfl hl.1 (As := [.int (zi (z2))]) (rest := [.int (zi (z1))]) rfl (Nat.le_of_ble_eq_true rfl) ⟨Nat.le_of_ble_eq_true rfl, Nat.le_of_ble_eq_true rfl⟩ dX4_count_132 ?_
                        refine lv_goto (tgt := 148) (pc := 135) hx hb dX4_count_135 (by decide) ?_
                        refine z_iadd (pc := 148) hx hb dX4_count_148 ?_
                        refine lv_istore_n (lv' := [(3, .int (zi ((z1 + (useZ st hr sp (u)))))), (6, .int (zi (0))), (5, .int (zi ((ca (u))))), (0, .ref (ad 0)), (1, .int (zi (S))), (2, .int (zi (w))), (4, .int (zi (z2)))]) (pc := 149) hx hb dX4_count_149 rfl hl (by decide) rfl (fun ls hl => ?_)
                        refine lv_iinc (v := zi (z2 + 1)) (lv' := [(4, .int (zi ((z2 + 1)))), (3, .int (zi ((z1 + (useZ st hr sp (u)))))), (6, .int (zi (0))), (5, .int (zi ((ca (u))))), (0, .ref (ad 0)), (1, .int (zi (S))), (2, .int (zi (w)))]) (pc := 150) hx hb dX4_count_150 hl (k := 6) rfl (zi_add _ _) (by decide) rfl (fun ls hl => ?_)
                        refine lv_goto (tgt := 28) (pc := 153) hx hb dX4_count_153 (by decide) ?_
                        exact ih  _ _ (by first | (exfalso; omega) | (simp only [cCt]; rw [e1, if_pos (by assumption)]; unfold shareZ; repeat (first | rw [if_pos (by omega)] | rw [if_neg (by omega)]))) (by rw [e2]; rfl) (e3) ls (lv_sub hl [4, 5, 6, 1, 0] rfl)
                    · refine lv_aload_n (pc := 113) hx hb dX4_count_113 rfl (lv_at hl 2 rfl) ?_
                      refine va_get (D := D) (cl := vwCl) (ci := 4) (v := .ref (ad 2)) (C := RX4) (T := TX4) (N := 17) (pc := 114) hx hb hT inT4 hown hK.1 hP 0 rfl rfl 2 (by decide) (hT _ tw_339) (fun _ h9 => h9) rfl dX4_count_114 ?_
                      refine lv_iload (pc := 117) hx hb dX4_count_117 (lv_at hl 6 rfl) ?_
                      refine z_iald (pc := 119) hx hb hK hP 2 (u) (f := hr) rfl (by omega) (by omega) (by omega) dX4_count_119 ?_
                      have r_89 := hhr (u)
                      refine lv_goto (tgt := 148) (pc := 120) hx hb dX4_count_120 (by decide) ?_
                      refine z_iadd (pc := 148) hx hb dX4_count_148 ?_
                      refine lv_istore_n (lv' := [(3, .int (zi ((z1 + (hr (u)))))), (6, .int (zi (0))), (5, .int (zi ((ca (u))))), (0, .ref (ad 0)), (1, .int (zi (S))), (2, .int (zi (w))), (4, .int (zi (z2)))]) (pc := 149) hx hb dX4_count_149 rfl hl (by decide) rfl (fun ls hl => ?_)
                      refine lv_iinc (v := zi (z2 + 1)) (lv' := [(4, .int (zi ((z2 + 1)))), (3, .int (zi ((z1 + (hr (u)))))), (6, .int (zi (0))), (5, .int (zi ((ca (u))))), (0, .ref (ad 0)), (1, .int (zi (S))), (2, .int (zi (w)))]) (pc := 150) hx hb dX4_count_150 hl (k := 6) rfl (zi_add _ _) (by decide) rfl (fun ls hl => ?_)
                      refine lv_goto (tgt := 28) (pc := 153) hx hb dX4_count_153 (by decide) ?_
                      exact ih  _ _ (by first | (exfalso; omega) | (simp only [cCt]; rw [e1, if_pos (by assumption)]; unfold shareZ; repeat (first | rw [if_pos (by omega)] | rw [if_neg (by omega)]))) (by rw [e2]; rfl) (e3) ls (lv_sub hl [4, 5, 6, 1, 0] rfl)
                  · refine lv_iload_n (pc := 86) hx hb dX4_count_86 rfl (lv_at hl 3 rfl) ?_
                    refine z_iconst (pc := 87) hx hb dX4_count_87 ?_
                    refine z_icmp_le (tgt := 103) (pc := 88) hx hb dX4_count_88 (by decide) (by omega) (by omega) (fun c_90 => ?_) (fun c_90 => ?_)
                    · refine z_iconst (pc := 103) hx hb dX4_count_103 ?_
                      refine lv_istore (lv' := [(6, .int (zi (0))), (5, .int (zi ((ca (u))))), (0, .ref (ad 0)), (1, .int (zi (S))), (2, .int (zi (w))), (3, .int (zi (z1))), (4, .int (zi (z2)))]) (pc := 104) hx hb dX4_count_104 hl (by decide) rfl (fun ls hl => ?_)
                      refine lv_iload_n (pc := 106) hx hb dX4_count_106 rfl (lv_at hl 5 rfl) ?_
                      refine lv_iload_n (pc := 107) hx hb dX4_count_107 rfl (lv_at hl 4 rfl) ?_
                      refine z_bipush (pc := 108) hx hb dX4_count_108 (by decide) ?_
                      refine z_icmp_ne (tgt := 123) (pc := 110) hx hb dX4_count_110 (by decide) (by omega) (by omega) (fun c_91 => ?_) (fun c_91 => ?_)
                      · refine lv_iload_n (pc := 123) hx hb dX4_count_123 rfl (lv_at hl 4 rfl) ?_
                        refine z_bipush (pc := 124) hx hb dX4_count_124 (by decide) ?_
                        refine z_icmp_ne (tgt := 138) (pc := 126) hx hb dX4_count_126 (by decide) (by omega) (by omega) (fun c_92 => ?_) (fun c_92 => ?_)
                        · refine lv_iload (pc := 138) hx hb dX4_count_138 (lv_at hl 0 rfl) ?_
                          refine z_if_eq (tgt := 147) (pc := 140) hx hb dX4_count_140 (by decide) (by omega) (fun c_93 => ?_) (fun c_93 => ?_)
                          · refine z_iconst (pc := 147) hx hb dX4_count_147 ?_
                            refine z_iadd (pc := 148) hx hb dX4_count_148 ?_
                            refine lv_istore_n (lv' := [(3, .int (zi ((z1 + 0)))), (6, .int (zi (0))), (5, .int (zi ((ca (u))))), (0, .ref (ad 0)), (1, .int (zi (S))), (2, .int (zi (w))), (4, .int (zi (z2)))]) (pc := 149) hx hb dX4_count_149 rfl hl (by decide) rfl (fun ls hl => ?_)
                            refine lv_iinc (v := zi (z2 + 1)) (lv' := [(4, .int (zi ((z2 + 1)))), (3, .int (zi ((z1 + 0)))), (6, .int (zi (0))), (5, .int (zi ((ca (u))))), (0, .ref (ad 0)), (1, .int (zi (S))), (2, .int (zi (w)))]) (pc := 150) hx hb dX4_count_150 hl (k := 6) rfl (zi_add _ _) (by decide) rfl (fun ls hl => ?_)
                            refine lv_goto (tgt := 28) (pc := 153) hx hb dX4_count_153 (by decide) ?_
                            exact ih  _ _ (by first | (exfalso; omega) | (simp only [cCt]; rw [e1, if_pos (by assumption)]; unfold shareZ; repeat (first | rw [if_pos (by omega)] | rw [if_neg (by omega)]))) (by rw [e2]; rfl) (e3) ls (lv_sub hl [4, 5, 6, 1, 0] rfl)
                          · refine z_iconst (pc := 143) hx hb dX4_count_143 ?_
                            refine lv_goto (tgt := 148) (pc := 144) hx hb dX4_count_144 (by decide) ?_
                            refine z_iadd (pc := 148) hx hb dX4_count_148 ?_
                            refine lv_istore_n (lv' := [(3, .int (zi ((z1 + 1)))), (6, .int (zi (0))), (5, .int (zi ((ca (u))))), (0, .ref (ad 0)), (1, .int (zi (S))), (2, .int (zi (w))), (4, .int (zi (z2)))]) (pc := 149) hx hb dX4_count_149 rfl hl (by decide) rfl (fun ls hl => ?_)
                            refine lv_iinc (v := zi (z2 + 1)) (lv' := [(4, .int (zi ((z2 + 1)))), (3, .int (zi ((z1 + 1)))), (6, .int (zi (0))), (5, .int (zi ((ca (u))))), (0, .ref (ad 0)), (1, .int (zi (S))), (2, .int (zi (w)))]) (pc := 150) hx hb dX4_count_150 hl (k := 6) rfl (zi_add _ _) (by decide) rfl (fun ls hl => ?_)
                            refine lv_goto (tgt := 28) (pc := 153) hx hb dX4_count_153 (by decide) ?_
                            exact ih  _ _ (by first | (exfalso; omega) | (simp only [cCt]; rw [e1, if_pos (by assumption)]; unfold shareZ; repeat (first | rw [if_pos (by omega)] | rw [if_neg (by omega)]))) (by rw [e2]; rfl) (e3) ls (lv_sub hl [4, 5, 6, 1, 0] rfl)
                        · refine lv_aload_n (pc := 129) hx hb dX4_count_129 rfl (lv_at hl 2 rfl) ?_
                          refine lv_iload (pc := 130) hx hb dX4_count_130 (lv_at hl 6 rfl) ?_
                          refine rd_V (pc := 132) hx hb hml hown hT hK (c_X4_useHour D cI cJ l ad n st hr ca sp k ts th pr hc lu ll up lo fr rr hv hU hsp (z2) (u) (by omega) (by omega)) ca_X4_useHour tw_425 hP 0 4 rfl rfl rfl ⟨Nat.le_of_ble_eq_true rfl, Nat.le_of_ble_eq_true rfl⟩ rfl hl.1 (As := [.int (zi (z2))]) (rest := [.int (zi (z1))]) rfl (Nat.le_of_ble_eq_true rfl) ⟨Nat.le_of_ble_eq_true rfl, Nat.le_of_ble_eq_true rfl⟩ dX4_count_132 ?_
                          refine lv_goto (tgt := 148) (pc := 135) hx hb dX4_count_135 (by decide) ?_
                          refine z_iadd (pc := 148) hx hb dX4_count_148 ?_
                          refine lv_istore_n (lv' := [(3, .int (zi ((z1 + (useZ st hr sp (u)))))), (6, .int (zi (0))), (5, .int (zi ((ca (u))))), (0, .ref (ad 0)), (1, .int (zi (S))), (2, .int (zi (w))), (4, .int (zi (z2)))]) (pc := 149) hx hb dX4_count_149 rfl hl (by decide) rfl (fun ls hl => ?_)
                          refine lv_iinc (v := zi (z2 + 1)) (lv' := [(4, .int (zi ((z2 + 1)))), (3, .int (zi ((z1 + (useZ st hr sp (u)))))), (6, .int (zi (0))), (5, .int (zi ((ca (u))))), (0, .ref (ad 0)), (1, .int (zi (S))), (2, .int (zi (w)))]) (pc := 150) hx hb dX4_count_150 hl (k := 6) rfl (zi_add _ _) (by decide) rfl (fun ls hl => ?_)
                          refine lv_goto (tgt := 28) (pc := 153) hx hb dX4_count_153 (by decide) ?_
                          exact ih  _ _ (by first | (exfalso; omega) | (simp only [cCt]; rw [e1, if_pos (by assumption)]; unfold shareZ; repeat (first | rw [if_pos (by omega)] | rw [if_neg (by omega)]))) (by rw [e2]; rfl) (e3) ls (lv_sub hl [4, 5, 6, 1, 0] rfl)
                      · refine lv_aload_n (pc := 113) hx hb dX4_count_113 rfl (lv_at hl 2 rfl) ?_
                        refine va_get (D := D) (cl := vwCl) (ci := 4) (v := .ref (ad 2)) (C := RX4) (T := TX4) (N := 17) (pc := 114) hx hb hT inT4 hown hK.1 hP 0 rfl rfl 2 (by decide) (hT _ tw_339) (fun _ h9 => h9) rfl dX4_count_114 ?_
                        refine lv_iload (pc := 117) hx hb dX4_count_117 (lv_at hl 6 rfl) ?_
                        refine z_iald (pc := 119) hx hb hK hP 2 (u) (f := hr) rfl (by omega) (by omega) (by omega) dX4_count_119 ?_
                        have r_94 := hhr (u)
                        refine lv_goto (tgt := 148) (pc := 120) hx hb dX4_count_120 (by decide) ?_
                        refine z_iadd (pc := 148) hx hb dX4_count_148 ?_
                        refine lv_istore_n (lv' := [(3, .int (zi ((z1 + (hr (u)))))), (6, .int (zi (0))), (5, .int (zi ((ca (u))))), (0, .ref (ad 0)), (1, .int (zi (S))), (2, .int (zi (w))), (4, .int (zi (z2)))]) (pc := 149) hx hb dX4_count_149 rfl hl (by decide) rfl (fun ls hl => ?_)
                        refine lv_iinc (v := zi (z2 + 1)) (lv' := [(4, .int (zi ((z2 + 1)))), (3, .int (zi ((z1 + (hr (u)))))), (6, .int (zi (0))), (5, .int (zi ((ca (u))))), (0, .ref (ad 0)), (1, .int (zi (S))), (2, .int (zi (w)))]) (pc := 150) hx hb dX4_count_150 hl (k := 6) rfl (zi_add _ _) (by decide) rfl (fun ls hl => ?_)
                        refine lv_goto (tgt := 28) (pc := 153) hx hb dX4_count_153 (by decide) ?_
                        exact ih  _ _ (by first | (exfalso; omega) | (simp only [cCt]; rw [e1, if_pos (by assumption)]; unfold shareZ; repeat (first | rw [if_pos (by omega)] | rw [if_neg (by omega)]))) (by rw [e2]; rfl) (e3) ls (lv_sub hl [4, 5, 6, 1, 0] rfl)
                    · refine lv_iload (pc := 91) hx hb dX4_count_91 (lv_at hl 0 rfl) ?_
                      refine lv_iload_n (pc := 93) hx hb dX4_count_93 rfl (lv_at hl 3 rfl) ?_
                      refine z_iconst (pc := 94) hx hb dX4_count_94 ?_
                      refine z_isub (pc := 95) hx hb dX4_count_95 ?_
                      refine z_icmp_ne (tgt := 103) (pc := 96) hx hb dX4_count_96 (by decide) (by omega) (by omega) (fun c_95 => ?_) (fun c_95 => ?_)
                      · refine z_iconst (pc := 103) hx hb dX4_count_103 ?_
                        refine lv_istore (lv' := [(6, .int (zi (0))), (5, .int (zi ((ca (u))))), (0, .ref (ad 0)), (1, .int (zi (S))), (2, .int (zi (w))), (3, .int (zi (z1))), (4, .int (zi (z2)))]) (pc := 104) hx hb dX4_count_104 hl (by decide) rfl (fun ls hl => ?_)
                        refine lv_iload_n (pc := 106) hx hb dX4_count_106 rfl (lv_at hl 5 rfl) ?_
                        refine lv_iload_n (pc := 107) hx hb dX4_count_107 rfl (lv_at hl 4 rfl) ?_
                        refine z_bipush (pc := 108) hx hb dX4_count_108 (by decide) ?_
                        refine z_icmp_ne (tgt := 123) (pc := 110) hx hb dX4_count_110 (by decide) (by omega) (by omega) (fun c_96 => ?_) (fun c_96 => ?_)
                        · refine lv_iload_n (pc := 123) hx hb dX4_count_123 rfl (lv_at hl 4 rfl) ?_
                          refine z_bipush (pc := 124) hx hb dX4_count_124 (by decide) ?_
                          refine z_icmp_ne (tgt := 138) (pc := 126) hx hb dX4_count_126 (by decide) (by omega) (by omega) (fun c_97 => ?_) (fun c_97 => ?_)
                          · refine lv_iload (pc := 138) hx hb dX4_count_138 (lv_at hl 0 rfl) ?_
                            refine z_if_eq (tgt := 147) (pc := 140) hx hb dX4_count_140 (by decide) (by omega) (fun c_98 => ?_) (fun c_98 => ?_)
                            · refine z_iconst (pc := 147) hx hb dX4_count_147 ?_
                              refine z_iadd (pc := 148) hx hb dX4_count_148 ?_
                              refine lv_istore_n (lv' := [(3, .int (zi ((z1 + 0)))), (6, .int (zi (0))), (5, .int (zi ((ca (u))))), (0, .ref (ad 0)), (1, .int (zi (S))), (2, .int (zi (w))), (4, .int (zi (z2)))]) (pc := 149) hx hb dX4_count_149 rfl hl (by decide) rfl (fun ls hl => ?_)
                              refine lv_iinc (v := zi (z2 + 1)) (lv' := [(4, .int (zi ((z2 + 1)))), (3, .int (zi ((z1 + 0)))), (6, .int (zi (0))), (5, .int (zi ((ca (u))))), (0, .ref (ad 0)), (1, .int (zi (S))), (2, .int (zi (w)))]) (pc := 150) hx hb dX4_count_150 hl (k := 6) rfl (zi_add _ _) (by decide) rfl (fun ls hl => ?_)
                              refine lv_goto (tgt := 28) (pc := 153) hx hb dX4_count_153 (by decide) ?_
                              exact ih  _ _ (by first | (exfalso; omega) | (simp only [cCt]; rw [e1, if_pos (by assumption)]; unfold shareZ; repeat (first | rw [if_pos (by omega)] | rw [if_neg (by omega)]))) (by rw [e2]; rfl) (e3) ls (lv_sub hl [4, 5, 6, 1, 0] rfl)
                            · refine z_iconst (pc := 143) hx hb dX4_count_143 ?_
                              refine lv_goto (tgt := 148) (pc := 144) hx hb dX4_count_144 (by decide) ?_
                              refine z_iadd (pc := 148) hx hb dX4_count_148 ?_
                              refine lv_istore_n (lv' := [(3, .int (zi ((z1 + 1)))), (6, .int (zi (0))), (5, .int (zi ((ca (u))))), (0, .ref (ad 0)), (1, .int (zi (S))), (2, .int (zi (w))), (4, .int (zi (z2)))]) (pc := 149) hx hb dX4_count_149 rfl hl (by decide) rfl (fun ls hl => ?_)
                              refine lv_iinc (v := zi (z2 + 1)) (lv' := [(4, .int (zi ((z2 + 1)))), (3, .int (zi ((z1 + 1)))), (6, .int (zi (0))), (5, .int (zi ((ca (u))))), (0, .ref (ad 0)), (1, .int (zi (S))), (2, .int (zi (w)))]) (pc := 150) hx hb dX4_count_150 hl (k := 6) rfl (zi_add _ _) (by decide) rfl (fun ls hl => ?_)
                              refine lv_goto (tgt := 28) (pc := 153) hx hb dX4_count_153 (by decide) ?_
                              exact ih  _ _ (by first | (exfalso; omega) | (simp only [cCt]; rw [e1, if_pos (by assumption)]; unfold shareZ; repeat (first | rw [if_pos (by omega)] | rw [if_neg (by omega)]))) (by rw [e2]; rfl) (e3) ls (lv_sub hl [4, 5, 6, 1, 0] rfl)
                          · refine lv_aload_n (pc := 129) hx hb dX4_count_129 rfl (lv_at hl 2 rfl) ?_
                            refine lv_iload (pc := 130) hx hb dX4_count_130 (lv_at hl 6 rfl) ?_
                            refine rd_V (pc := 132) hx hb hml hown hT hK (c_X4_useHour D cI cJ l ad n st hr ca sp k ts th pr hc lu ll up lo fr rr hv hU hsp (z2) (u) (by omega) (by omega)) ca_X4_useHour tw_425 hP 0 4 rfl rfl rfl ⟨Nat.le_of_ble_eq_true rfl, Nat.le_of_ble_eq_true rfl⟩ rfl hl.1 (As := [.int (zi (z2))]) (rest := [.int (zi (z1))]) rfl (Nat.le_of_ble_eq_true rfl) ⟨Nat.le_of_ble_eq_true rfl, Nat.le_of_ble_eq_true rfl⟩ dX4_count_132 ?_
                            refine lv_goto (tgt := 148) (pc := 135) hx hb dX4_count_135 (by decide) ?_
                            refine z_iadd (pc := 148) hx hb dX4_count_148 ?_
                            refine lv_istore_n (lv' := [(3, .int (zi ((z1 + (useZ st hr sp (u)))))), (6, .int (zi (0))), (5, .int (zi ((ca (u))))), (0, .ref (ad 0)), (1, .int (zi (S))), (2, .int (zi (w))), (4, .int (zi (z2)))]) (pc := 149) hx hb dX4_count_149 rfl hl (by decide) rfl (fun ls hl => ?_)
                            refine lv_iinc (v := zi (z2 + 1)) (lv' := [(4, .int (zi ((z2 + 1)))), (3, .int (zi ((z1 + (useZ st hr sp (u)))))), (6, .int (zi (0))), (5, .int (zi ((ca (u))))), (0, .ref (ad 0)), (1, .int (zi (S))), (2, .int (zi (w)))]) (pc := 150) hx hb dX4_count_150 hl (k := 6) rfl (zi_add _ _) (by decide) rfl (fun ls hl => ?_)
                            refine lv_goto (tgt := 28) (pc := 153) hx hb dX4_count_153 (by decide) ?_
                            exact ih  _ _ (by first | (exfalso; omega) | (simp only [cCt]; rw [e1, if_pos (by assumption)]; unfold shareZ; repeat (first | rw [if_pos (by omega)] | rw [if_neg (by omega)]))) (by rw [e2]; rfl) (e3) ls (lv_sub hl [4, 5, 6, 1, 0] rfl)
                        · refine lv_aload_n (pc := 113) hx hb dX4_count_113 rfl (lv_at hl 2 rfl) ?_
                          refine va_get (D := D) (cl := vwCl) (ci := 4) (v := .ref (ad 2)) (C := RX4) (T := TX4) (N := 17) (pc := 114) hx hb hT inT4 hown hK.1 hP 0 rfl rfl 2 (by decide) (hT _ tw_339) (fun _ h9 => h9) rfl dX4_count_114 ?_
                          refine lv_iload (pc := 117) hx hb dX4_count_117 (lv_at hl 6 rfl) ?_
                          refine z_iald (pc := 119) hx hb hK hP 2 (u) (f := hr) rfl (by omega) (by omega) (by omega) dX4_count_119 ?_
                          have r_99 := hhr (u)
                          refine lv_goto (tgt := 148) (pc := 120) hx hb dX4_count_120 (by decide) ?_
                          refine z_iadd (pc := 148) hx hb dX4_count_148 ?_
                          refine lv_istore_n (lv' := [(3, .int (zi ((z1 + (hr (u)))))), (6, .int (zi (0))), (5, .int (zi ((ca (u))))), (0, .ref (ad 0)), (1, .int (zi (S))), (2, .int (zi (w))), (4, .int (zi (z2)))]) (pc := 149) hx hb dX4_count_149 rfl hl (by decide) rfl (fun ls hl => ?_)
                          refine lv_iinc (v := zi (z2 + 1)) (lv' := [(4, .int (zi ((z2 + 1)))), (3, .int (zi ((z1 + (hr (u)))))), (6, .int (zi (0))), (5, .int (zi ((ca (u))))), (0, .ref (ad 0)), (1, .int (zi (S))), (2, .int (zi (w)))]) (pc := 150) hx hb dX4_count_150 hl (k := 6) rfl (zi_add _ _) (by decide) rfl (fun ls hl => ?_)
                          refine lv_goto (tgt := 28) (pc := 153) hx hb dX4_count_153 (by decide) ?_
                          exact ih  _ _ (by first | (exfalso; omega) | (simp only [cCt]; rw [e1, if_pos (by assumption)]; unfold shareZ; repeat (first | rw [if_pos (by omega)] | rw [if_neg (by omega)]))) (by rw [e2]; rfl) (e3) ls (lv_sub hl [4, 5, 6, 1, 0] rfl)
                      · refine z_iconst (pc := 99) hx hb dX4_count_99 ?_
                        refine lv_goto (tgt := 104) (pc := 100) hx hb dX4_count_100 (by decide) ?_
                        refine lv_istore (lv' := [(6, .int (zi (1))), (5, .int (zi ((ca (u))))), (0, .ref (ad 0)), (1, .int (zi (S))), (2, .int (zi (w))), (3, .int (zi (z1))), (4, .int (zi (z2)))]) (pc := 104) hx hb dX4_count_104 hl (by decide) rfl (fun ls hl => ?_)
                        refine lv_iload_n (pc := 106) hx hb dX4_count_106 rfl (lv_at hl 5 rfl) ?_
                        refine lv_iload_n (pc := 107) hx hb dX4_count_107 rfl (lv_at hl 4 rfl) ?_
                        refine z_bipush (pc := 108) hx hb dX4_count_108 (by decide) ?_
                        refine z_icmp_ne (tgt := 123) (pc := 110) hx hb dX4_count_110 (by decide) (by omega) (by omega) (fun c_100 => ?_) (fun c_100 => ?_)
                        · refine lv_iload_n (pc := 123) hx hb dX4_count_123 rfl (lv_at hl 4 rfl) ?_
                          refine z_bipush (pc := 124) hx hb dX4_count_124 (by decide) ?_
                          refine z_icmp_ne (tgt := 138) (pc := 126) hx hb dX4_count_126 (by decide) (by omega) (by omega) (fun c_101 => ?_) (fun c_101 => ?_)
                          · refine lv_iload (pc := 138) hx hb dX4_count_138 (lv_at hl 0 rfl) ?_
                            refine z_if_eq (tgt := 147) (pc := 140) hx hb dX4_count_140 (by decide) (by omega) (fun c_102 => ?_) (fun c_102 => ?_)
                            · refine z_iconst (pc := 147) hx hb dX4_count_147 ?_
                              refine z_iadd (pc := 148) hx hb dX4_count_148 ?_
                              refine lv_istore_n (lv' := [(3, .int (zi ((z1 + 0)))), (6, .int (zi (1))), (5, .int (zi ((ca (u))))), (0, .ref (ad 0)), (1, .int (zi (S))), (2, .int (zi (w))), (4, .int (zi (z2)))]) (pc := 149) hx hb dX4_count_149 rfl hl (by decide) rfl (fun ls hl => ?_)
                              refine lv_iinc (v := zi (z2 + 1)) (lv' := [(4, .int (zi ((z2 + 1)))), (3, .int (zi ((z1 + 0)))), (6, .int (zi (1))), (5, .int (zi ((ca (u))))), (0, .ref (ad 0)), (1, .int (zi (S))), (2, .int (zi (w)))]) (pc := 150) hx hb dX4_count_150 hl (k := 6) rfl (zi_add _ _) (by decide) rfl (fun ls hl => ?_)
                              refine lv_goto (tgt := 28) (pc := 153) hx hb dX4_count_153 (by decide) ?_
                              exact ih  _ _ (by first | (exfalso; omega) | (simp only [cCt]; rw [e1, if_pos (by assumption)]; unfold shareZ; repeat (first | rw [if_pos (by omega)] | rw [if_neg (by omega)]))) (by rw [e2]; rfl) (e3) ls (lv_sub hl [4, 5, 6, 1, 0] rfl)
                            · refine z_iconst (pc := 143) hx hb dX4_count_143 ?_
                              refine lv_goto (tgt := 148) (pc := 144) hx hb dX4_count_144 (by decide) ?_
                              refine z_iadd (pc := 148) hx hb dX4_count_148 ?_
                              refine lv_istore_n (lv' := [(3, .int (zi ((z1 + 1)))), (6, .int (zi (1))), (5, .int (zi ((ca (u))))), (0, .ref (ad 0)), (1, .int (zi (S))), (2, .int (zi (w))), (4, .int (zi (z2)))]) (pc := 149) hx hb dX4_count_149 rfl hl (by decide) rfl (fun ls hl => ?_)
                              refine lv_iinc (v := zi (z2 + 1)) (lv' := [(4, .int (zi ((z2 + 1)))), (3, .int (zi ((z1 + 1)))), (6, .int (zi (1))), (5, .int (zi ((ca (u))))), (0, .ref (ad 0)), (1, .int (zi (S))), (2, .int (zi (w)))]) (pc := 150) hx hb dX4_count_150 hl (k := 6) rfl (zi_add _ _) (by decide) rfl (fun ls hl => ?_)
                              refine lv_goto (tgt := 28) (pc := 153) hx hb dX4_count_153 (by decide) ?_
                              exact ih  _ _ (by first | (exfalso; omega) | (simp only [cCt]; rw [e1, if_pos (by assumption)]; unfold shareZ; repeat (first | rw [if_pos (by omega)] | rw [if_neg (by omega)]))) (by rw [e2]; rfl) (e3) ls (lv_sub hl [4, 5, 6, 1, 0] rfl)
                          · refine lv_aload_n (pc := 129) hx hb dX4_count_129 rfl (lv_at hl 2 rfl) ?_
                            refine lv_iload (pc := 130) hx hb dX4_count_130 (lv_at hl 6 rfl) ?_
                            refine rd_V (pc := 132) hx hb hml hown hT hK (c_X4_useHour D cI cJ l ad n st hr ca sp k ts th pr hc lu ll up lo fr rr hv hU hsp (z2) (u) (by omega) (by omega)) ca_X4_useHour tw_425 hP 0 4 rfl rfl rfl ⟨Nat.le_of_ble_eq_true rfl, Nat.le_of_ble_eq_true rfl⟩ rfl hl.1 (As := [.int (zi (z2))]) (rest := [.int (zi (z1))]) rfl (Nat.le_of_ble_eq_true rfl) ⟨Nat.le_of_ble_eq_true rfl, Nat.le_of_ble_eq_true rfl⟩ dX4_count_132 ?_
                            refine lv_goto (tgt := 148) (pc := 135) hx hb dX4_count_135 (by decide) ?_
                            refine z_iadd (pc := 148) hx hb dX4_count_148 ?_
                            refine lv_istore_n (lv' := [(3, .int (zi ((z1 + (useZ st hr sp (u)))))), (6, .int (zi (1))), (5, .int (zi ((ca (u))))), (0, .ref (ad 0)), (1, .int (zi (S))), (2, .int (zi (w))), (4, .int (zi (z2)))]) (pc := 149) hx hb dX4_count_149 rfl hl (by decide) rfl (fun ls hl => ?_)
                            refine lv_iinc (v := zi (z2 + 1)) (lv' := [(4, .int (zi ((z2 + 1)))), (3, .int (zi ((z1 + (useZ st hr sp (u)))))), (6, .int (zi (1))), (5, .int (zi ((ca (u))))), (0, .ref (ad 0)), (1, .int (zi (S))), (2, .int (zi (w)))]) (pc := 150) hx hb dX4_count_150 hl (k := 6) rfl (zi_add _ _) (by decide) rfl (fun ls hl => ?_)
                            refine lv_goto (tgt := 28) (pc := 153) hx hb dX4_count_153 (by decide) ?_
                            exact ih  _ _ (by first | (exfalso; omega) | (simp only [cCt]; rw [e1, if_pos (by assumption)]; unfold shareZ; repeat (first | rw [if_pos (by omega)] | rw [if_neg (by omega)]))) (by rw [e2]; rfl) (e3) ls (lv_sub hl [4, 5, 6, 1, 0] rfl)
                        · refine lv_aload_n (pc := 113) hx hb dX4_count_113 rfl (lv_at hl 2 rfl) ?_
                          refine va_get (D := D) (cl := vwCl) (ci := 4) (v := .ref (ad 2)) (C := RX4) (T := TX4) (N := 17) (pc := 114) hx hb hT inT4 hown hK.1 hP 0 rfl rfl 2 (by decide) (hT _ tw_339) (fun _ h9 => h9) rfl dX4_count_114 ?_
                          refine lv_iload (pc := 117) hx hb dX4_count_117 (lv_at hl 6 rfl) ?_
                          refine z_iald (pc := 119) hx hb hK hP 2 (u) (f := hr) rfl (by omega) (by omega) (by omega) dX4_count_119 ?_
                          have r_103 := hhr (u)
                          refine lv_goto (tgt := 148) (pc := 120) hx hb dX4_count_120 (by decide) ?_
                          refine z_iadd (pc := 148) hx hb dX4_count_148 ?_
                          refine lv_istore_n (lv' := [(3, .int (zi ((z1 + (hr (u)))))), (6, .int (zi (1))), (5, .int (zi ((ca (u))))), (0, .ref (ad 0)), (1, .int (zi (S))), (2, .int (zi (w))), (4, .int (zi (z2)))]) (pc := 149) hx hb dX4_count_149 rfl hl (by decide) rfl (fun ls hl => ?_)
                          refine lv_iinc (v := zi (z2 + 1)) (lv' := [(4, .int (zi ((z2 + 1)))), (3, .int (zi ((z1 + (hr (u)))))), (6, .int (zi (1))), (5, .int (zi ((ca (u))))), (0, .ref (ad 0)), (1, .int (zi (S))), (2, .int (zi (w)))]) (pc := 150) hx hb dX4_count_150 hl (k := 6) rfl (zi_add _ _) (by decide) rfl (fun ls hl => ?_)
                          refine lv_goto (tgt := 28) (pc := 153) hx hb dX4_count_153 (by decide) ?_
                          exact ih  _ _ (by first | (exfalso; omega) | (simp only [cCt]; rw [e1, if_pos (by assumption)]; unfold shareZ; repeat (first | rw [if_pos (by omega)] | rw [if_neg (by omega)]))) (by rw [e2]; rfl) (e3) ls (lv_sub hl [4, 5, 6, 1, 0] rfl)
  refine lv_iload_n (pc := 0) hx hb dX4_count_0 rfl (lv_at hl 1 rfl) ?_
  refine rd_S (pc := 1) hx hb hml hown hT hK (c_X4_isSet D cI cJ l (S) (by omega)) ca_X4_isSet tw_433 va_Pnil ⟨Nat.le_of_ble_eq_true rfl, Nat.le_of_ble_eq_true rfl⟩ rfl hl.1 (As := [.int (zi (S))]) (rest := []) rfl (Nat.le_of_ble_eq_true rfl) ⟨Nat.le_of_ble_eq_true rfl, Nat.le_of_ble_eq_true rfl⟩ dX4_count_1 ?_
  refine z_ifB_eq (tgt := 19) (pc := 4) hx hb dX4_count_4 (by decide) (fun c_104 => ?_) (fun c_104 => ?_)
  · refine z_sipush (pc := 19) hx hb dX4_count_19 (by decide) ?_
    exact rd_iret hx hb hrt hlk dX4_count_22 (by rw [countZ, if_neg (by omega)])
  · refine lv_iload_n (pc := 7) hx hb dX4_count_7 rfl (lv_at hl 2 rfl) ?_
    refine z_i2l (pc := 8) hx hb (by omega) dX4_count_8 ?_
    refine z_lconst0 (pc := 9) hx hb dX4_count_9 ?_
    refine z_ldc2 (pc := 10) hx hb (7) hown (hT _ tw_437) (by decide) dX4_count_10 ?_
    refine rd_S (pc := 13) hx hb hml hown hT hK (c_X4_in D cI cJ l (w) (by omega) (0) (by omega) (7) (by omega)) ca_X4_in tw_400 va_Pnil ⟨Nat.le_of_ble_eq_true rfl, Nat.le_of_ble_eq_true rfl⟩ rfl hl.1 (As := [.long (zj (w)), .long (zj (0)), .long (zj (7))]) (rest := []) rfl (Nat.le_of_ble_eq_true rfl) ⟨Nat.le_of_ble_eq_true rfl, Nat.le_of_ble_eq_true rfl⟩ dX4_count_13 ?_
    refine z_ifB_ne (tgt := 23) (pc := 16) hx hb dX4_count_16 (by decide) (fun c_105 => ?_) (fun c_105 => ?_)
    · refine z_iconst (pc := 23) hx hb dX4_count_23 ?_
      refine lv_istore_n (lv' := [(3, .int (zi (0))), (0, .ref (ad 0)), (1, .int (zi (S))), (2, .int (zi (w)))]) (pc := 24) hx hb dX4_count_24 rfl hl (by decide) rfl (fun ls hl => ?_)
      refine z_iconst (pc := 25) hx hb dX4_count_25 ?_
      refine lv_istore (lv' := [(4, .int (zi (0))), (3, .int (zi (0))), (0, .ref (ad 0)), (1, .int (zi (S))), (2, .int (zi (w)))]) (pc := 26) hx hb dX4_count_26 hl (by decide) rfl (fun ls hl => ?_)
      exact loop 0 (by omega) _ _ (by rfl) (by rfl) (by omega) ls (lv_sub hl [2, 3, 4, 1, 0] rfl)
    · refine z_sipush (pc := 19) hx hb dX4_count_19 (by decide) ?_
      exact rd_iret hx hb hrt hlk dX4_count_22 (by rw [countZ, if_neg (by omega)])

set_option maxHeartbeats 4000000 in
set_option maxRecDepth 100000 in
theorem c_X4_riskAt (D : va_G) (cI cJ : ClassId) (l : Launch) (ad : Nat → Nat) (n : Int) (st hr ca sp : Nat → Int) (k : Int) (ts th : Nat → Int) (pr hc lu ll up lo : Int) (fr rr hv : Nat → Int) (hU : VU n st hr ca) (S : Int) (hS0 : 0 ≤ S ∧ S ≤ 15) (t : Int) (r_t : -2147483648 ≤ t ∧ t ≤ 2147483647) : RD D cI cJ l yX4_riskAt cX4_riskAt 5 (some .int) 1 22 [.ref (ad 0), .int (zi (S)), .int (zi (t))] (wM ad cI n st hr ca sp k ts th pr hc lu ll up lo fr rr hv) (.int (zi (cRk st hr S t n.toNat))) := by
  refine RD.of (by decide) (Nat.le_of_ble_eq_true rfl) ?_
  intro p e s m args below meth c hx hb hrt hml hown hT hlk hK hP ls hl
  replace hl : lv_has ls 5 [(0, .ref (ad 0)), (1, .int (zi (S))), (2, .int (zi (t)))] := hl
  obtain ⟨hn, hst, hhr, hh1, hca⟩ := id hU
  have loop : ∀ u : Nat, u ≤ n.toNat → ∀ (z1 z2 : Int), (z1 = cRk st hr S t u) → (z2 = (u : Int)) → ∀ ls : Array Slot, lv_has ls 5 [(0, .ref (ad 0)), (1, .int (zi (S))), (2, .int (zi (t))), (3, .int (zi (z1))), (4, .int (zi (z2)))] → W p l e (RM 1 22) s m args below meth c s.heap [] 0 0 (MQ below (QR (.int (zi (cRk st hr S t n.toNat))) s.heap) args s 0 0 (fun _ => False)) (F0 m 5 ls []) := by
    refine lp_up (fun u => ∀ (z1 z2 : Int), (z1 = cRk st hr S t u) → (z2 = (u : Int)) → ∀ ls : Array Slot, lv_has ls 5 [(0, .ref (ad 0)), (1, .int (zi (S))), (2, .int (zi (t))), (3, .int (zi (z1))), (4, .int (zi (z2)))] → W p l e (RM 1 22) s m args below meth c s.heap [] 0 0 (MQ below (QR (.int (zi (cRk st hr S t n.toNat))) s.heap) args s 0 0 (fun _ => False)) (F0 m 5 ls [])) (n.toNat) ?_ ?_
    · intro z1 z2 e1 e2 ls hl
      refine lv_iload (pc := 5) hx hb dX4_riskAt_5 (lv_at hl 4 rfl) ?_
      refine lv_aload_n (pc := 7) hx hb dX4_riskAt_7 rfl (lv_at hl 0 rfl) ?_
      refine va_get (D := D) (cl := vwCl) (ci := 4) (v := .int (zi (n))) (C := RX4) (T := TX4) (N := 17) (pc := 8) hx hb hT inT4 hown hK.1 hP 0 rfl rfl 0 (by decide) (hT _ tw_337) (fun _ h9 => h9) rfl dX4_riskAt_8 ?_
      refine z_icmp_ge (tgt := 49) (pc := 11) hx hb dX4_riskAt_11 (by decide) (by omega) (by omega) (fun c_1 => ?_) (fun c_1 => absurd c_1 (by omega))
      refine lv_iload_n (pc := 49) hx hb dX4_riskAt_49 rfl (lv_at hl 3 rfl) ?_
      exact rd_iret hx hb hrt hlk dX4_riskAt_50 (by rw [e1])
    · intro u hu ih z1 z2 e1 e2 ls hl
      refine lv_iload (pc := 5) hx hb dX4_riskAt_5 (lv_at hl 4 rfl) ?_
      refine lv_aload_n (pc := 7) hx hb dX4_riskAt_7 rfl (lv_at hl 0 rfl) ?_
      refine va_get (D := D) (cl := vwCl) (ci := 4) (v := .int (zi (n))) (C := RX4) (T := TX4) (N := 17) (pc := 8) hx hb hT inT4 hown hK.1 hP 0 rfl rfl 0 (by decide) (hT _ tw_337) (fun _ h9 => h9) rfl dX4_riskAt_8 ?_
      refine z_icmp_ge (tgt := 49) (pc := 11) hx hb dX4_riskAt_11 (by decide) (by omega) (by omega) (fun c_2 => absurd c_2 (by omega)) (fun c_2 => ?_)
      refine lv_iload_n (pc := 14) hx hb dX4_riskAt_14 rfl (lv_at hl 3 rfl) ?_
      refine lv_aload_n (pc := 15) hx hb dX4_riskAt_15 rfl (lv_at hl 0 rfl) ?_
      refine lv_iload (pc := 16) hx hb dX4_riskAt_16 (lv_at hl 4 rfl) ?_
      refine lv_iload_n (pc := 18) hx hb dX4_riskAt_18 rfl (lv_at hl 1 rfl) ?_
      refine rd_V (pc := 19) hx hb hml hown hT hK (c_X4_isIn D cI cJ l ad n st hr ca sp k ts th pr hc lu ll up lo fr rr hv hU (z2) u (by omega) (by omega) (S) (by omega)) ca_X4_isIn tw_438 hP 0 4 rfl rfl rfl ⟨Nat.le_of_ble_eq_true rfl, Nat.le_of_ble_eq_true rfl⟩ rfl hl.1 (As := [.int (zi (z2)), .int (zi (S))]) (rest := [.int (zi (z1))]) rfl (Nat.le_of_ble_eq_true rfl) ⟨Nat.le_of_ble_eq_true rfl, Nat.le_of_ble_eq_true rfl⟩ dX4_riskAt_19 ?_
      refine z_ifB_eq (tgt := 40) (pc := 22) hx hb dX4_riskAt_22 (by decide) (fun c_3 => ?_) (fun c_3 => ?_)
      · refine z_iconst (pc := 40) hx hb dX4_riskAt_40 ?_
        refine z_iadd (pc := 41) hx hb dX4_riskAt_41 ?_
        refine lv_istore_n (lv' := [(3, .int (zi ((z1 + 0)))), (0, .ref (ad 0)), (1, .int (zi (S))), (2, .int (zi (t))), (4, .int (zi (z2)))]) (pc := 42) hx hb dX4_riskAt_42 rfl hl (by decide) rfl (fun ls hl => ?_)
        refine lv_iinc (v := zi (z2 + 1)) (lv' := [(4, .int (zi ((z2 + 1)))), (3, .int (zi ((z1 + 0)))), (0, .ref (ad 0)), (1, .int (zi (S))), (2, .int (zi (t)))]) (pc := 43) hx hb dX4_riskAt_43 hl (k := 4) rfl (zi_add _ _) (by decide) rfl (fun ls hl => ?_)
        refine lv_goto (tgt := 5) (pc := 46) hx hb dX4_riskAt_46 (by decide) ?_
        exact ih  _ _ (by rw [e1]; simp only [cRk]; split <;> omega) (by rw [e2]; rfl) ls (lv_sub hl [2, 3, 4, 1, 0] rfl)
      · refine lv_aload_n (pc := 25) hx hb dX4_riskAt_25 rfl (lv_at hl 0 rfl) ?_
        refine va_get (D := D) (cl := vwCl) (ci := 4) (v := .ref (ad 2)) (C := RX4) (T := TX4) (N := 17) (pc := 26) hx hb hT inT4 hown hK.1 hP 0 rfl rfl 2 (by decide) (hT _ tw_339) (fun _ h9 => h9) rfl dX4_riskAt_26 ?_
        refine lv_iload (pc := 29) hx hb dX4_riskAt_29 (lv_at hl 4 rfl) ?_
        refine z_iald (pc := 31) hx hb hK hP 2 (u) (f := hr) rfl (by omega) (by omega) (by omega) dX4_riskAt_31 ?_
        have r_4 := hhr (u)
        refine lv_iload_n (pc := 32) hx hb dX4_riskAt_32 rfl (lv_at hl 2 rfl) ?_
        refine z_icmp_lt (tgt := 40) (pc := 33) hx hb dX4_riskAt_33 (by decide) (by omega) (by omega) (fun c_5 => ?_) (fun c_5 => ?_)
        · refine z_iconst (pc := 40) hx hb dX4_riskAt_40 ?_
          refine z_iadd (pc := 41) hx hb dX4_riskAt_41 ?_
          refine lv_istore_n (lv' := [(3, .int (zi ((z1 + 0)))), (0, .ref (ad 0)), (1, .int (zi (S))), (2, .int (zi (t))), (4, .int (zi (z2)))]) (pc := 42) hx hb dX4_riskAt_42 rfl hl (by decide) rfl (fun ls hl => ?_)
          refine lv_iinc (v := zi (z2 + 1)) (lv' := [(4, .int (zi ((z2 + 1)))), (3, .int (zi ((z1 + 0)))), (0, .ref (ad 0)), (1, .int (zi (S))), (2, .int (zi (t)))]) (pc := 43) hx hb dX4_riskAt_43 hl (k := 4) rfl (zi_add _ _) (by decide) rfl (fun ls hl => ?_)
          refine lv_goto (tgt := 5) (pc := 46) hx hb dX4_riskAt_46 (by decide) ?_
          exact ih  _ _ (by rw [e1]; simp only [cRk]; split <;> omega) (by rw [e2]; rfl) ls (lv_sub hl [2, 3, 4, 1, 0] rfl)
        · refine z_iconst (pc := 36) hx hb dX4_riskAt_36 ?_
          refine lv_goto (tgt := 41) (pc := 37) hx hb dX4_riskAt_37 (by decide) ?_
          refine z_iadd (pc := 41) hx hb dX4_riskAt_41 ?_
          refine lv_istore_n (lv' := [(3, .int (zi ((z1 + 1)))), (0, .ref (ad 0)), (1, .int (zi (S))), (2, .int (zi (t))), (4, .int (zi (z2)))]) (pc := 42) hx hb dX4_riskAt_42 rfl hl (by decide) rfl (fun ls hl => ?_)
          refine lv_iinc (v := zi (z2 + 1)) (lv' := [(4, .int (zi ((z2 + 1)))), (3, .int (zi ((z1 + 1)))), (0, .ref (ad 0)), (1, .int (zi (S))), (2, .int (zi (t)))]) (pc := 43) hx hb dX4_riskAt_43 hl (k := 4) rfl (zi_add _ _) (by decide) rfl (fun ls hl => ?_)
          refine lv_goto (tgt := 5) (pc := 46) hx hb dX4_riskAt_46 (by decide) ?_
          exact ih  _ _ (by rw [e1]; simp only [cRk]; split <;> omega) (by rw [e2]; rfl) ls (lv_sub hl [2, 3, 4, 1, 0] rfl)
  refine z_iconst (pc := 0) hx hb dX4_riskAt_0 ?_
  refine lv_istore_n (lv' := [(3, .int (zi (0))), (0, .ref (ad 0)), (1, .int (zi (S))), (2, .int (zi (t)))]) (pc := 1) hx hb dX4_riskAt_1 rfl hl (by decide) rfl (fun ls hl => ?_)
  refine z_iconst (pc := 2) hx hb dX4_riskAt_2 ?_
  refine lv_istore (lv' := [(4, .int (zi (0))), (3, .int (zi (0))), (0, .ref (ad 0)), (1, .int (zi (S))), (2, .int (zi (t)))]) (pc := 3) hx hb dX4_riskAt_3 hl (by decide) rfl (fun ls hl => ?_)
  exact loop 0 (by omega) _ _ (by rfl) (by rfl) ls (lv_sub hl [2, 3, 4, 1, 0] rfl)

set_option maxHeartbeats 4000000 in
set_option maxRecDepth 100000 in
theorem c_X4_risk (D : va_G) (cI cJ : ClassId) (l : Launch) (ad : Nat → Nat) (n : Int) (st hr ca sp : Nat → Int) (k : Int) (ts th : Nat → Int) (pr hc lu ll up lo : Int) (fr rr hv : Nat → Int) (hU : VU n st hr ca) (S : Int) (r_S : -2147483648 ≤ S ∧ S ≤ 2147483647) (t : Int) (r_t : -2147483648 ≤ t ∧ t ≤ 2147483647) : RD D cI cJ l yX4_risk cX4_risk 3 (some .int) 2 46 [.ref (ad 0), .int (zi (S)), .int (zi (t))] (wM ad cI n st hr ca sp k ts th pr hc lu ll up lo fr rr hv) (.int (zi (riskZ n st hr S t))) := by
  refine RD.of (by decide) (Nat.le_of_ble_eq_true rfl) ?_
  intro p e s m args below meth c hx hb hrt hml hown hT hlk hK hP ls hl
  replace hl : lv_has ls 3 [(0, .ref (ad 0)), (1, .int (zi (S))), (2, .int (zi (t)))] := hl
  obtain ⟨hn, hst, hhr, hh1, hca⟩ := id hU
  refine lv_iload_n (pc := 0) hx hb dX4_risk_0 rfl (lv_at hl 1 rfl) ?_
  refine rd_S (pc := 1) hx hb hml hown hT hK (c_X4_isSet D cI cJ l (S) (by omega)) ca_X4_isSet tw_433 va_Pnil ⟨Nat.le_of_ble_eq_true rfl, Nat.le_of_ble_eq_true rfl⟩ rfl hl.1 (As := [.int (zi (S))]) (rest := []) rfl (Nat.le_of_ble_eq_true rfl) ⟨Nat.le_of_ble_eq_true rfl, Nat.le_of_ble_eq_true rfl⟩ dX4_risk_1 ?_
  refine z_ifB_eq (tgt := 28) (pc := 4) hx hb dX4_risk_4 (by decide) (fun c_1 => ?_) (fun c_1 => ?_)
  · refine z_sipush (pc := 28) hx hb dX4_risk_28 (by decide) ?_
    exact rd_iret hx hb hrt hlk dX4_risk_31 (by rw [riskZ, if_neg (by omega)])
  · refine lv_iload_n (pc := 7) hx hb dX4_risk_7 rfl (lv_at hl 2 rfl) ?_
    refine z_i2l (pc := 8) hx hb (by omega) dX4_risk_8 ?_
    refine z_lconst0 (pc := 9) hx hb dX4_risk_9 ?_
    refine z_ldc2 (pc := 10) hx hb (500) hown (hT _ tw_403) (by decide) dX4_risk_10 ?_
    refine rd_S (pc := 13) hx hb hml hown hT hK (c_X4_in D cI cJ l (t) (by omega) (0) (by omega) (500) (by omega)) ca_X4_in tw_400 va_Pnil ⟨Nat.le_of_ble_eq_true rfl, Nat.le_of_ble_eq_true rfl⟩ rfl hl.1 (As := [.long (zj (t)), .long (zj (0)), .long (zj (500))]) (rest := []) rfl (Nat.le_of_ble_eq_true rfl) ⟨Nat.le_of_ble_eq_true rfl, Nat.le_of_ble_eq_true rfl⟩ dX4_risk_13 ?_
    refine z_ifB_eq (tgt := 28) (pc := 16) hx hb dX4_risk_16 (by decide) (fun c_2 => ?_) (fun c_2 => ?_)
    · refine z_sipush (pc := 28) hx hb dX4_risk_28 (by decide) ?_
      exact rd_iret hx hb hrt hlk dX4_risk_31 (by rw [riskZ, if_neg (by omega)])
    · refine lv_aload_n (pc := 19) hx hb dX4_risk_19 rfl (lv_at hl 0 rfl) ?_
      refine lv_iload_n (pc := 20) hx hb dX4_risk_20 rfl (lv_at hl 1 rfl) ?_
      refine lv_iload_n (pc := 21) hx hb dX4_risk_21 rfl (lv_at hl 2 rfl) ?_
      refine rd_V (pc := 22) hx hb hml hown hT hK (c_X4_riskAt D cI cJ l ad n st hr ca sp k ts th pr hc lu ll up lo fr rr hv hU (S) (by omega) (t) (by omega)) ca_X4_riskAt tw_446 hP 0 4 rfl rfl rfl ⟨Nat.le_of_ble_eq_true rfl, Nat.le_of_ble_eq_true rfl⟩ rfl hl.1 (As := [.int (zi (S)), .int (zi (t))]) (rest := []) rfl (Nat.le_of_ble_eq_true rfl) ⟨Nat.le_of_ble_eq_true rfl, Nat.le_of_ble_eq_true rfl⟩ dX4_risk_22 ?_
      refine lv_goto (tgt := 31) (pc := 25) hx hb dX4_risk_25 (by decide) ?_
      exact rd_iret hx hb hrt hlk dX4_risk_31 (by rw [riskZ, if_pos (by omega)])

set_option maxHeartbeats 4000000 in
set_option maxRecDepth 100000 in
theorem c_X4_failedAt (D : va_G) (cI cJ : ClassId) (l : Launch) (ad : Nat → Nat) (n : Int) (st hr ca sp : Nat → Int) (k : Int) (ts th : Nat → Int) (pr hc lu ll up lo : Int) (fr rr hv : Nat → Int) (hU : VU n st hr ca) (S : Int) (hS0 : 0 ≤ S ∧ S ≤ 15) (b : Int) (r_b : -1 ≤ b ∧ b ≤ 2) (t : Int) (r_t : -2147483648 ≤ t ∧ t ≤ 2147483647) : RD D cI cJ l yX4_failedAt cX4_failedAt 7 (some .int) 1 22 [.ref (ad 0), .int (zi (S)), .int (zi (b)), .int (zi (t))] (wM ad cI n st hr ca sp k ts th pr hc lu ll up lo fr rr hv) (.int (zi (cFl st hr ca S b t n.toNat))) := by
  refine RD.of (by decide) (Nat.le_of_ble_eq_true rfl) ?_
  intro p e s m args below meth c hx hb hrt hml hown hT hlk hK hP ls hl
  replace hl : lv_has ls 7 [(0, .ref (ad 0)), (1, .int (zi (S))), (2, .int (zi (b))), (3, .int (zi (t)))] := hl
  obtain ⟨hn, hst, hhr, hh1, hca⟩ := id hU
  have loop : ∀ u : Nat, u ≤ n.toNat → ∀ (z1 z2 : Int), (z1 = cFl st hr ca S b t u) → (z2 = (u : Int)) → ∀ ls : Array Slot, lv_has ls 7 [(0, .ref (ad 0)), (1, .int (zi (S))), (2, .int (zi (b))), (3, .int (zi (t))), (4, .int (zi (z1))), (5, .int (zi (z2)))] → W p l e (RM 1 22) s m args below meth c s.heap [] 0 0 (MQ below (QR (.int (zi (cFl st hr ca S b t n.toNat))) s.heap) args s 0 0 (fun _ => False)) (F0 m 6 ls []) := by
    refine lp_up (fun u => ∀ (z1 z2 : Int), (z1 = cFl st hr ca S b t u) → (z2 = (u : Int)) → ∀ ls : Array Slot, lv_has ls 7 [(0, .ref (ad 0)), (1, .int (zi (S))), (2, .int (zi (b))), (3, .int (zi (t))), (4, .int (zi (z1))), (5, .int (zi (z2)))] → W p l e (RM 1 22) s m args below meth c s.heap [] 0 0 (MQ below (QR (.int (zi (cFl st hr ca S b t n.toNat))) s.heap) args s 0 0 (fun _ => False)) (F0 m 6 ls [])) (n.toNat) ?_ ?_
    · intro z1 z2 e1 e2 ls hl
      refine lv_iload (pc := 6) hx hb dX4_failedAt_6 (lv_at hl 5 rfl) ?_
      refine lv_aload_n (pc := 8) hx hb dX4_failedAt_8 rfl (lv_at hl 0 rfl) ?_
      refine va_get (D := D) (cl := vwCl) (ci := 4) (v := .int (zi (n))) (C := RX4) (T := TX4) (N := 17) (pc := 9) hx hb hT inT4 hown hK.1 hP 0 rfl rfl 0 (by decide) (hT _ tw_337) (fun _ h9 => h9) rfl dX4_failedAt_9 ?_
      refine z_icmp_ge (tgt := 97) (pc := 12) hx hb dX4_failedAt_12 (by decide) (by omega) (by omega) (fun c_1 => ?_) (fun c_1 => absurd c_1 (by omega))
      refine lv_iload (pc := 97) hx hb dX4_failedAt_97 (lv_at hl 4 rfl) ?_
      exact rd_iret hx hb hrt hlk dX4_failedAt_99 (by rw [e1])
    · intro u hu ih z1 z2 e1 e2 ls hl
      refine lv_iload (pc := 6) hx hb dX4_failedAt_6 (lv_at hl 5 rfl) ?_
      refine lv_aload_n (pc := 8) hx hb dX4_failedAt_8 rfl (lv_at hl 0 rfl) ?_
      refine va_get (D := D) (cl := vwCl) (ci := 4) (v := .int (zi (n))) (C := RX4) (T := TX4) (N := 17) (pc := 9) hx hb hT inT4 hown hK.1 hP 0 rfl rfl 0 (by decide) (hT _ tw_337) (fun _ h9 => h9) rfl dX4_failedAt_9 ?_
      refine z_icmp_ge (tgt := 97) (pc := 12) hx hb dX4_failedAt_12 (by decide) (by omega) (by omega) (fun c_2 => absurd c_2 (by omega)) (fun c_2 => ?_)
      refine lv_iload_n (pc := 15) hx hb dX4_failedAt_15 rfl (lv_at hl 2 rfl) ?_
      refine z_if_ge (tgt := 37) (pc := 16) hx hb dX4_failedAt_16 (by decide) (by omega) (fun c_3 => ?_) (fun c_3 => ?_)
      · refine lv_aload_n (pc := 37) hx hb dX4_failedAt_37 rfl (lv_at hl 0 rfl) ?_
        refine va_get (D := D) (cl := vwCl) (ci := 4) (v := .ref (ad 3)) (C := RX4) (T := TX4) (N := 17) (pc := 38) hx hb hT inT4 hown hK.1 hP 0 rfl rfl 3 (by decide) (hT _ tw_340) (fun _ h9 => h9) rfl dX4_failedAt_38 ?_
        refine lv_iload (pc := 41) hx hb dX4_failedAt_41 (lv_at hl 5 rfl) ?_
        refine z_iald (pc := 43) hx hb hK hP 3 (u) (f := ca) rfl (by omega) (by omega) (by omega) dX4_failedAt_43 ?_
        have r_4 := hca (u)
        refine lv_iload_n (pc := 44) hx hb dX4_failedAt_44 rfl (lv_at hl 2 rfl) ?_
        refine z_icmp_ne (tgt := 52) (pc := 45) hx hb dX4_failedAt_45 (by decide) (by omega) (by omega) (fun c_5 => ?_) (fun c_5 => ?_)
        · refine z_iconst (pc := 52) hx hb dX4_failedAt_52 ?_
          refine lv_istore (lv' := [(6, .int (zi (0))), (0, .ref (ad 0)), (1, .int (zi (S))), (2, .int (zi (b))), (3, .int (zi (t))), (4, .int (zi (z1))), (5, .int (zi (z2)))]) (pc := 53) hx hb dX4_failedAt_53 hl (by decide) rfl (fun ls hl => ?_)
          refine lv_iload (pc := 55) hx hb dX4_failedAt_55 (lv_at hl 5 rfl) ?_
          refine lv_aload_n (pc := 57) hx hb dX4_failedAt_57 rfl (lv_at hl 1 rfl) ?_
          refine lv_iload (pc := 58) hx hb dX4_failedAt_58 (lv_at hl 6 rfl) ?_
          refine lv_iload_n (pc := 60) hx hb dX4_failedAt_60 rfl (lv_at hl 2 rfl) ?_
          refine rd_V (pc := 61) hx hb hml hown hT hK (c_X4_isIn D cI cJ l ad n st hr ca sp k ts th pr hc lu ll up lo fr rr hv hU (z2) u (by omega) (by omega) (S) (by omega)) ca_X4_isIn tw_438 hP 0 4 rfl rfl rfl ⟨Nat.le_of_ble_eq_true rfl, Nat.le_of_ble_eq_true rfl⟩ rfl hl.1 (As := [.int (zi (z2)), .int (zi (S))]) (rest := [.int (zi (z1))]) rfl (Nat.le_of_ble_eq_true rfl) ⟨Nat.le_of_ble_eq_true rfl, Nat.le_of_ble_eq_true rfl⟩ dX4_failedAt_61 ?_
          refine z_ifB_eq (tgt := 87) (pc := 64) hx hb dX4_failedAt_64 (by decide) (fun c_6 => ?_) (fun c_6 => ?_)
          · refine z_iconst (pc := 87) hx hb dX4_failedAt_87 ?_
            refine z_iadd (pc := 88) hx hb dX4_failedAt_88 ?_
            refine lv_istore (lv' := [(4, .int (zi ((z1 + 0)))), (6, .int (zi (0))), (0, .ref (ad 0)), (1, .int (zi (S))), (2, .int (zi (b))), (3, .int (zi (t))), (5, .int (zi (z2)))]) (pc := 89) hx hb dX4_failedAt_89 hl (by decide) rfl (fun ls hl => ?_)
            refine lv_iinc (v := zi (z2 + 1)) (lv' := [(5, .int (zi ((z2 + 1)))), (4, .int (zi ((z1 + 0)))), (6, .int (zi (0))), (0, .ref (ad 0)), (1, .int (zi (S))), (2, .int (zi (b))), (3, .int (zi (t)))]) (pc := 91) hx hb dX4_failedAt_91 hl (k := 6) rfl (zi_add _ _) (by decide) rfl (fun ls hl => ?_)
            refine lv_goto (tgt := 6) (pc := 94) hx hb dX4_failedAt_94 (by decide) ?_
            exact ih  _ _ (by first | (exfalso; omega) | (rw [e1]; simp only [cFl]; split <;> omega)) (by rw [e2]; rfl) ls (lv_sub hl [3, 4, 5, 6, 1, 0] rfl)
          · refine lv_iload (pc := 67) hx hb dX4_failedAt_67 (lv_at hl 0 rfl) ?_
            refine z_if_eq (tgt := 87) (pc := 69) hx hb dX4_failedAt_69 (by decide) (by omega) (fun c_7 => ?_) (fun c_7 => ?_)
            · refine z_iconst (pc := 87) hx hb dX4_failedAt_87 ?_
              refine z_iadd (pc := 88) hx hb dX4_failedAt_88 ?_
              refine lv_istore (lv' := [(4, .int (zi ((z1 + 0)))), (6, .int (zi (0))), (0, .ref (ad 0)), (1, .int (zi (S))), (2, .int (zi (b))), (3, .int (zi (t))), (5, .int (zi (z2)))]) (pc := 89) hx hb dX4_failedAt_89 hl (by decide) rfl (fun ls hl => ?_)
              refine lv_iinc (v := zi (z2 + 1)) (lv' := [(5, .int (zi ((z2 + 1)))), (4, .int (zi ((z1 + 0)))), (6, .int (zi (0))), (0, .ref (ad 0)), (1, .int (zi (S))), (2, .int (zi (b))), (3, .int (zi (t)))]) (pc := 91) hx hb dX4_failedAt_91 hl (k := 6) rfl (zi_add _ _) (by decide) rfl (fun ls hl => ?_)
              refine lv_goto (tgt := 6) (pc := 94) hx hb dX4_failedAt_94 (by decide) ?_
              exact ih  _ _ (by first | (exfalso; omega) | (rw [e1]; simp only [cFl]; split <;> omega)) (by rw [e2]; rfl) ls (lv_sub hl [3, 4, 5, 6, 1, 0] rfl)
            · refine lv_aload_n (pc := 72) hx hb dX4_failedAt_72 rfl (lv_at hl 1 rfl) ?_
              refine va_get (D := D) (cl := vwCl) (ci := 4) (v := .ref (ad 2)) (C := RX4) (T := TX4) (N := 17) (pc := 73) hx hb hT inT4 hown hK.1 hP 0 rfl rfl 2 (by decide) (hT _ tw_339) (fun _ h9 => h9) rfl dX4_failedAt_73 ?_
              refine lv_iload (pc := 76) hx hb dX4_failedAt_76 (lv_at hl 6 rfl) ?_
              refine z_iald (pc := 78) hx hb hK hP 2 (u) (f := hr) rfl (by omega) (by omega) (by omega) dX4_failedAt_78 ?_
              have r_8 := hhr (u)
              refine lv_iload_n (pc := 79) hx hb dX4_failedAt_79 rfl (lv_at hl 4 rfl) ?_
              refine z_icmp_ne (tgt := 87) (pc := 80) hx hb dX4_failedAt_80 (by decide) (by omega) (by omega) (fun c_9 => ?_) (fun c_9 => ?_)
              · refine z_iconst (pc := 87) hx hb dX4_failedAt_87 ?_
                refine z_iadd (pc := 88) hx hb dX4_failedAt_88 ?_
                refine lv_istore (lv' := [(4, .int (zi ((z1 + 0)))), (6, .int (zi (0))), (0, .ref (ad 0)), (1, .int (zi (S))), (2, .int (zi (b))), (3, .int (zi (t))), (5, .int (zi (z2)))]) (pc := 89) hx hb dX4_failedAt_89 hl (by decide) rfl (fun ls hl => ?_)
                refine lv_iinc (v := zi (z2 + 1)) (lv' := [(5, .int (zi ((z2 + 1)))), (4, .int (zi ((z1 + 0)))), (6, .int (zi (0))), (0, .ref (ad 0)), (1, .int (zi (S))), (2, .int (zi (b))), (3, .int (zi (t)))]) (pc := 91) hx hb dX4_failedAt_91 hl (k := 6) rfl (zi_add _ _) (by decide) rfl (fun ls hl => ?_)
                refine lv_goto (tgt := 6) (pc := 94) hx hb dX4_failedAt_94 (by decide) ?_
                exact ih  _ _ (by first | (exfalso; omega) | (rw [e1]; simp only [cFl]; split <;> omega)) (by rw [e2]; rfl) ls (lv_sub hl [3, 4, 5, 6, 1, 0] rfl)
              · refine z_iconst (pc := 83) hx hb dX4_failedAt_83 ?_
                refine lv_goto (tgt := 88) (pc := 84) hx hb dX4_failedAt_84 (by decide) ?_
                refine z_iadd (pc := 88) hx hb dX4_failedAt_88 ?_
                refine lv_istore (lv' := [(4, .int (zi ((z1 + 1)))), (6, .int (zi (0))), (0, .ref (ad 0)), (1, .int (zi (S))), (2, .int (zi (b))), (3, .int (zi (t))), (5, .int (zi (z2)))]) (pc := 89) hx hb dX4_failedAt_89 hl (by decide) rfl (fun ls hl => ?_)
                refine lv_iinc (v := zi (z2 + 1)) (lv' := [(5, .int (zi ((z2 + 1)))), (4, .int (zi ((z1 + 1)))), (6, .int (zi (0))), (0, .ref (ad 0)), (1, .int (zi (S))), (2, .int (zi (b))), (3, .int (zi (t)))]) (pc := 91) hx hb dX4_failedAt_91 hl (k := 6) rfl (zi_add _ _) (by decide) rfl (fun ls hl => ?_)
                refine lv_goto (tgt := 6) (pc := 94) hx hb dX4_failedAt_94 (by decide) ?_
                exact ih  _ _ (by first | (exfalso; omega) | (rw [e1]; simp only [cFl]; split <;> omega)) (by rw [e2]; rfl) ls (lv_sub hl [3, 4, 5, 6, 1, 0] rfl)
        · refine z_iconst (pc := 48) hx hb dX4_failedAt_48 ?_
          refine lv_goto (tgt := 53) (pc := 49) hx hb dX4_failedAt_49 (by decide) ?_
          refine lv_istore (lv' := [(6, .int (zi (1))), (0, .ref (ad 0)), (1, .int (zi (S))), (2, .int (zi (b))), (3, .int (zi (t))), (4, .int (zi (z1))), (5, .int (zi (z2)))]) (pc := 53) hx hb dX4_failedAt_53 hl (by decide) rfl (fun ls hl => ?_)
          refine lv_iload (pc := 55) hx hb dX4_failedAt_55 (lv_at hl 5 rfl) ?_
          refine lv_aload_n (pc := 57) hx hb dX4_failedAt_57 rfl (lv_at hl 1 rfl) ?_
          refine lv_iload (pc := 58) hx hb dX4_failedAt_58 (lv_at hl 6 rfl) ?_
          refine lv_iload_n (pc := 60) hx hb dX4_failedAt_60 rfl (lv_at hl 2 rfl) ?_
          refine rd_V (pc := 61) hx hb hml hown hT hK (c_X4_isIn D cI cJ l ad n st hr ca sp k ts th pr hc lu ll up lo fr rr hv hU (z2) u (by omega) (by omega) (S) (by omega)) ca_X4_isIn tw_438 hP 0 4 rfl rfl rfl ⟨Nat.le_of_ble_eq_true rfl, Nat.le_of_ble_eq_true rfl⟩ rfl hl.1 (As := [.int (zi (z2)), .int (zi (S))]) (rest := [.int (zi (z1))]) rfl (Nat.le_of_ble_eq_true rfl) ⟨Nat.le_of_ble_eq_true rfl, Nat.le_of_ble_eq_true rfl⟩ dX4_failedAt_61 ?_
          refine z_ifB_eq (tgt := 87) (pc := 64) hx hb dX4_failedAt_64 (by decide) (fun c_10 => ?_) (fun c_10 => ?_)
          · refine z_iconst (pc := 87) hx hb dX4_failedAt_87 ?_
            refine z_iadd (pc := 88) hx hb dX4_failedAt_88 ?_
            refine lv_istore (lv' := [(4, .int (zi ((z1 + 0)))), (6, .int (zi (1))), (0, .ref (ad 0)), (1, .int (zi (S))), (2, .int (zi (b))), (3, .int (zi (t))), (5, .int (zi (z2)))]) (pc := 89) hx hb dX4_failedAt_89 hl (by decide) rfl (fun ls hl => ?_)
            refine lv_iinc (v := zi (z2 + 1)) (lv' := [(5, .int (zi ((z2 + 1)))), (4, .int (zi ((z1 + 0)))), (6, .int (zi (1))), (0, .ref (ad 0)), (1, .int (zi (S))), (2, .int (zi (b))), (3, .int (zi (t)))]) (pc := 91) hx hb dX4_failedAt_91 hl (k := 6) rfl (zi_add _ _) (by decide) rfl (fun ls hl => ?_)
            refine lv_goto (tgt := 6) (pc := 94) hx hb dX4_failedAt_94 (by decide) ?_
            exact ih  _ _ (by first | (exfalso; omega) | (rw [e1]; simp only [cFl]; split <;> omega)) (by rw [e2]; rfl) ls (lv_sub hl [3, 4, 5, 6, 1, 0] rfl)
          · refine lv_iload (pc := 67) hx hb dX4_failedAt_67 (lv_at hl 0 rfl) ?_
            refine z_if_eq (tgt := 87) (pc := 69) hx hb dX4_failedAt_69 (by decide) (by omega) (fun c_11 => ?_) (fun c_11 => ?_)
            · refine z_iconst (pc := 87) hx hb dX4_failedAt_87 ?_
              refine z_iadd (pc := 88) hx hb dX4_failedAt_88 ?_
              refine lv_istore (lv' := [(4, .int (zi ((z1 + 0)))), (6, .int (zi (1))), (0, .ref (ad 0)), (1, .int (zi (S))), (2, .int (zi (b))), (3, .int (zi (t))), (5, .int (zi (z2)))]) (pc := 89) hx hb dX4_failedAt_89 hl (by decide) rfl (fun ls hl => ?_)
              refine lv_iinc (v := zi (z2 + 1)) (lv' := [(5, .int (zi ((z2 + 1)))), (4, .int (zi ((z1 + 0)))), (6, .int (zi (1))), (0, .ref (ad 0)), (1, .int (zi (S))), (2, .int (zi (b))), (3, .int (zi (t)))]) (pc := 91) hx hb dX4_failedAt_91 hl (k := 6) rfl (zi_add _ _) (by decide) rfl (fun ls hl => ?_)
              refine lv_goto (tgt := 6) (pc := 94) hx hb dX4_failedAt_94 (by decide) ?_
              exact ih  _ _ (by first | (exfalso; omega) | (rw [e1]; simp only [cFl]; split <;> omega)) (by rw [e2]; rfl) ls (lv_sub hl [3, 4, 5, 6, 1, 0] rfl)
            · refine lv_aload_n (pc := 72) hx hb dX4_failedAt_72 rfl (lv_at hl 1 rfl) ?_
              refine va_get (D := D) (cl := vwCl) (ci := 4) (v := .ref (ad 2)) (C := RX4) (T := TX4) (N := 17) (pc := 73) hx hb hT inT4 hown hK.1 hP 0 rfl rfl 2 (by decide) (hT _ tw_339) (fun _ h9 => h9) rfl dX4_failedAt_73 ?_
              refine lv_iload (pc := 76) hx hb dX4_failedAt_76 (lv_at hl 6 rfl) ?_
              refine z_iald (pc := 78) hx hb hK hP 2 (u) (f := hr) rfl (by omega) (by omega) (by omega) dX4_failedAt_78 ?_
              have r_12 := hhr (u)
              refine lv_iload_n (pc := 79) hx hb dX4_failedAt_79 rfl (lv_at hl 4 rfl) ?_
              refine z_icmp_ne (tgt := 87) (pc := 80) hx hb dX4_failedAt_80 (by decide) (by omega) (by omega) (fun c_13 => ?_) (fun c_13 => ?_)
              · refine z_iconst (pc := 87) hx hb dX4_failedAt_87 ?_
                refine z_iadd (pc := 88) hx hb dX4_failedAt_88 ?_
                refine lv_istore (lv' := [(4, .int (zi ((z1 + 0)))), (6, .int (zi (1))), (0, .ref (ad 0)), (1, .int (zi (S))), (2, .int (zi (b))), (3, .int (zi (t))), (5, .int (zi (z2)))]) (pc := 89) hx hb dX4_failedAt_89 hl (by decide) rfl (fun ls hl => ?_)
                refine lv_iinc (v := zi (z2 + 1)) (lv' := [(5, .int (zi ((z2 + 1)))), (4, .int (zi ((z1 + 0)))), (6, .int (zi (1))), (0, .ref (ad 0)), (1, .int (zi (S))), (2, .int (zi (b))), (3, .int (zi (t)))]) (pc := 91) hx hb dX4_failedAt_91 hl (k := 6) rfl (zi_add _ _) (by decide) rfl (fun ls hl => ?_)
                refine lv_goto (tgt := 6) (pc := 94) hx hb dX4_failedAt_94 (by decide) ?_
                exact ih  _ _ (by first | (exfalso; omega) | (rw [e1]; simp only [cFl]; split <;> omega)) (by rw [e2]; rfl) ls (lv_sub hl [3, 4, 5, 6, 1, 0] rfl)
              · refine z_iconst (pc := 83) hx hb dX4_failedAt_83 ?_
                refine lv_goto (tgt := 88) (pc := 84) hx hb dX4_failedAt_84 (by decide) ?_
                refine z_iadd (pc := 88) hx hb dX4_failedAt_88 ?_
                refine lv_istore (lv' := [(4, .int (zi ((z1 + 1)))), (6, .int (zi (1))), (0, .ref (ad 0)), (1, .int (zi (S))), (2, .int (zi (b))), (3, .int (zi (t))), (5, .int (zi (z2)))]) (pc := 89) hx hb dX4_failedAt_89 hl (by decide) rfl (fun ls hl => ?_)
                refine lv_iinc (v := zi (z2 + 1)) (lv' := [(5, .int (zi ((z2 + 1)))), (4, .int (zi ((z1 + 1)))), (6, .int (zi (1))), (0, .ref (ad 0)), (1, .int (zi (S))), (2, .int (zi (b))), (3, .int (zi (t)))]) (pc := 91) hx hb dX4_failedAt_91 hl (k := 6) rfl (zi_add _ _) (by decide) rfl (fun ls hl => ?_)
                refine lv_goto (tgt := 6) (pc := 94) hx hb dX4_failedAt_94 (by decide) ?_
                exact ih  _ _ (by first | (exfalso; omega) | (rw [e1]; simp only [cFl]; split <;> omega)) (by rw [e2]; rfl) ls (lv_sub hl [3, 4, 5, 6, 1, 0] rfl)
      · refine lv_aload_n (pc := 19) hx hb dX4_failedAt_19 rfl (lv_at hl 0 rfl) ?_
        refine va_get (D := D) (cl := vwCl) (ci := 4) (v := .ref (ad 3)) (C := RX4) (T := TX4) (N := 17) (pc := 20) hx hb hT inT4 hown hK.1 hP 0 rfl rfl 3 (by decide) (hT _ tw_340) (fun _ h9 => h9) rfl dX4_failedAt_20 ?_
        refine lv_iload (pc := 23) hx hb dX4_failedAt_23 (lv_at hl 5 rfl) ?_
        refine z_iald (pc := 25) hx hb hK hP 3 (u) (f := ca) rfl (by omega) (by omega) (by omega) dX4_failedAt_25 ?_
        have r_14 := hca (u)
        refine z_if_lt (tgt := 33) (pc := 26) hx hb dX4_failedAt_26 (by decide) (by omega) (fun c_15 => ?_) (fun c_15 => ?_)
        · refine z_iconst (pc := 33) hx hb dX4_failedAt_33 ?_
          refine lv_goto (tgt := 53) (pc := 34) hx hb dX4_failedAt_34 (by decide) ?_
          refine lv_istore (lv' := [(6, .int (zi (0))), (0, .ref (ad 0)), (1, .int (zi (S))), (2, .int (zi (b))), (3, .int (zi (t))), (4, .int (zi (z1))), (5, .int (zi (z2)))]) (pc := 53) hx hb dX4_failedAt_53 hl (by decide) rfl (fun ls hl => ?_)
          refine lv_iload (pc := 55) hx hb dX4_failedAt_55 (lv_at hl 5 rfl) ?_
          refine lv_aload_n (pc := 57) hx hb dX4_failedAt_57 rfl (lv_at hl 1 rfl) ?_
          refine lv_iload (pc := 58) hx hb dX4_failedAt_58 (lv_at hl 6 rfl) ?_
          refine lv_iload_n (pc := 60) hx hb dX4_failedAt_60 rfl (lv_at hl 2 rfl) ?_
          refine rd_V (pc := 61) hx hb hml hown hT hK (c_X4_isIn D cI cJ l ad n st hr ca sp k ts th pr hc lu ll up lo fr rr hv hU (z2) u (by omega) (by omega) (S) (by omega)) ca_X4_isIn tw_438 hP 0 4 rfl rfl rfl ⟨Nat.le_of_ble_eq_true rfl, Nat.le_of_ble_eq_true rfl⟩ rfl hl.1 (As := [.int (zi (z2)), .int (zi (S))]) (rest := [.int (zi (z1))]) rfl (Nat.le_of_ble_eq_true rfl) ⟨Nat.le_of_ble_eq_true rfl, Nat.le_of_ble_eq_true rfl⟩ dX4_failedAt_61 ?_
          refine z_ifB_eq (tgt := 87) (pc := 64) hx hb dX4_failedAt_64 (by decide) (fun c_16 => ?_) (fun c_16 => ?_)
          · refine z_iconst (pc := 87) hx hb dX4_failedAt_87 ?_
            refine z_iadd (pc := 88) hx hb dX4_failedAt_88 ?_
            refine lv_istore (lv' := [(4, .int (zi ((z1 + 0)))), (6, .int (zi (0))), (0, .ref (ad 0)), (1, .int (zi (S))), (2, .int (zi (b))), (3, .int (zi (t))), (5, .int (zi (z2)))]) (pc := 89) hx hb dX4_failedAt_89 hl (by decide) rfl (fun ls hl => ?_)
            refine lv_iinc (v := zi (z2 + 1)) (lv' := [(5, .int (zi ((z2 + 1)))), (4, .int (zi ((z1 + 0)))), (6, .int (zi (0))), (0, .ref (ad 0)), (1, .int (zi (S))), (2, .int (zi (b))), (3, .int (zi (t)))]) (pc := 91) hx hb dX4_failedAt_91 hl (k := 6) rfl (zi_add _ _) (by decide) rfl (fun ls hl => ?_)
            refine lv_goto (tgt := 6) (pc := 94) hx hb dX4_failedAt_94 (by decide) ?_
            exact ih  _ _ (by first | (exfalso; omega) | (rw [e1]; simp only [cFl]; split <;> omega)) (by rw [e2]; rfl) ls (lv_sub hl [3, 4, 5, 6, 1, 0] rfl)
          · refine lv_iload (pc := 67) hx hb dX4_failedAt_67 (lv_at hl 0 rfl) ?_
            refine z_if_eq (tgt := 87) (pc := 69) hx hb dX4_failedAt_69 (by decide) (by omega) (fun c_17 => ?_) (fun c_17 => ?_)
            · refine z_iconst (pc := 87) hx hb dX4_failedAt_87 ?_
              refine z_iadd (pc := 88) hx hb dX4_failedAt_88 ?_
              refine lv_istore (lv' := [(4, .int (zi ((z1 + 0)))), (6, .int (zi (0))), (0, .ref (ad 0)), (1, .int (zi (S))), (2, .int (zi (b))), (3, .int (zi (t))), (5, .int (zi (z2)))]) (pc := 89) hx hb dX4_failedAt_89 hl (by decide) rfl (fun ls hl => ?_)
              refine lv_iinc (v := zi (z2 + 1)) (lv' := [(5, .int (zi ((z2 + 1)))), (4, .int (zi ((z1 + 0)))), (6, .int (zi (0))), (0, .ref (ad 0)), (1, .int (zi (S))), (2, .int (zi (b))), (3, .int (zi (t)))]) (pc := 91) hx hb dX4_failedAt_91 hl (k := 6) rfl (zi_add _ _) (by decide) rfl (fun ls hl => ?_)
              refine lv_goto (tgt := 6) (pc := 94) hx hb dX4_failedAt_94 (by decide) ?_
              exact ih  _ _ (by first | (exfalso; omega) | (rw [e1]; simp only [cFl]; split <;> omega)) (by rw [e2]; rfl) ls (lv_sub hl [3, 4, 5, 6, 1, 0] rfl)
            · refine lv_aload_n (pc := 72) hx hb dX4_failedAt_72 rfl (lv_at hl 1 rfl) ?_
              refine va_get (D := D) (cl := vwCl) (ci := 4) (v := .ref (ad 2)) (C := RX4) (T := TX4) (N := 17) (pc := 73) hx hb hT inT4 hown hK.1 hP 0 rfl rfl 2 (by decide) (hT _ tw_339) (fun _ h9 => h9) rfl dX4_failedAt_73 ?_
              refine lv_iload (pc := 76) hx hb dX4_failedAt_76 (lv_at hl 6 rfl) ?_
              refine z_iald (pc := 78) hx hb hK hP 2 (u) (f := hr) rfl (by omega) (by omega) (by omega) dX4_failedAt_78 ?_
              have r_18 := hhr (u)
              refine lv_iload_n (pc := 79) hx hb dX4_failedAt_79 rfl (lv_at hl 4 rfl) ?_
              refine z_icmp_ne (tgt := 87) (pc := 80) hx hb dX4_failedAt_80 (by decide) (by omega) (by omega) (fun c_19 => ?_) (fun c_19 => ?_)
              · refine z_iconst (pc := 87) hx hb dX4_failedAt_87 ?_
                refine z_iadd (pc := 88) hx hb dX4_failedAt_88 ?_
                refine lv_istore (lv' := [(4, .int (zi ((z1 + 0)))), (6, .int (zi (0))), (0, .ref (ad 0)), (1, .int (zi (S))), (2, .int (zi (b))), (3, .int (zi (t))), (5, .int (zi (z2)))]) (pc := 89) hx hb dX4_failedAt_89 hl (by decide) rfl (fun ls hl => ?_)
                refine lv_iinc (v := zi (z2 + 1)) (lv' := [(5, .int (zi ((z2 + 1)))), (4, .int (zi ((z1 + 0)))), (6, .int (zi (0))), (0, .ref (ad 0)), (1, .int (zi (S))), (2, .int (zi (b))), (3, .int (zi (t)))]) (pc := 91) hx hb dX4_failedAt_91 hl (k := 6) rfl (zi_add _ _) (by decide) rfl (fun ls hl => ?_)
                refine lv_goto (tgt := 6) (pc := 94) hx hb dX4_failedAt_94 (by decide) ?_
                exact ih  _ _ (by first | (exfalso; omega) | (rw [e1]; simp only [cFl]; split <;> omega)) (by rw [e2]; rfl) ls (lv_sub hl [3, 4, 5, 6, 1, 0] rfl)
              · refine z_iconst (pc := 83) hx hb dX4_failedAt_83 ?_
                refine lv_goto (tgt := 88) (pc := 84) hx hb dX4_failedAt_84 (by decide) ?_
                refine z_iadd (pc := 88) hx hb dX4_failedAt_88 ?_
                refine lv_istore (lv' := [(4, .int (zi ((z1 + 1)))), (6, .int (zi (0))), (0, .ref (ad 0)), (1, .int (zi (S))), (2, .int (zi (b))), (3, .int (zi (t))), (5, .int (zi (z2)))]) (pc := 89) hx hb dX4_failedAt_89 hl (by decide) rfl (fun ls hl => ?_)
                refine lv_iinc (v := zi (z2 + 1)) (lv' := [(5, .int (zi ((z2 + 1)))), (4, .int (zi ((z1 + 1)))), (6, .int (zi (0))), (0, .ref (ad 0)), (1, .int (zi (S))), (2, .int (zi (b))), (3, .int (zi (t)))]) (pc := 91) hx hb dX4_failedAt_91 hl (k := 6) rfl (zi_add _ _) (by decide) rfl (fun ls hl => ?_)
                refine lv_goto (tgt := 6) (pc := 94) hx hb dX4_failedAt_94 (by decide) ?_
                exact ih  _ _ (by first | (exfalso; omega) | (rw [e1]; simp only [cFl]; split <;> omega)) (by rw [e2]; rfl) ls (lv_sub hl [3, 4, 5, 6, 1, 0] rfl)
        · refine z_iconst (pc := 29) hx hb dX4_failedAt_29 ?_
          refine lv_goto (tgt := 53) (pc := 30) hx hb dX4_failedAt_30 (by decide) ?_
          refine lv_istore (lv' := [(6, .int (zi (1))), (0, .ref (ad 0)), (1, .int (zi (S))), (2, .int (zi (b))), (3, .int (zi (t))), (4, .int (zi (z1))), (5, .int (zi (z2)))]) (pc := 53) hx hb dX4_failedAt_53 hl (by decide) rfl (fun ls hl => ?_)
          refine lv_iload (pc := 55) hx hb dX4_failedAt_55 (lv_at hl 5 rfl) ?_
          refine lv_aload_n (pc := 57) hx hb dX4_failedAt_57 rfl (lv_at hl 1 rfl) ?_
          refine lv_iload (pc := 58) hx hb dX4_failedAt_58 (lv_at hl 6 rfl) ?_
          refine lv_iload_n (pc := 60) hx hb dX4_failedAt_60 rfl (lv_at hl 2 rfl) ?_
          refine rd_V (pc := 61) hx hb hml hown hT hK (c_X4_isIn D cI cJ l ad n st hr ca sp k ts th pr hc lu ll up lo fr rr hv hU (z2) u (by omega) (by omega) (S) (by omega)) ca_X4_isIn tw_438 hP 0 4 rfl rfl rfl ⟨Nat.le_of_ble_eq_true rfl, Nat.le_of_ble_eq_true rfl⟩ rfl hl.1 (As := [.int (zi (z2)), .int (zi (S))]) (rest := [.int (zi (z1))]) rfl (Nat.le_of_ble_eq_true rfl) ⟨Nat.le_of_ble_eq_true rfl, Nat.le_of_ble_eq_true rfl⟩ dX4_failedAt_61 ?_
          refine z_ifB_eq (tgt := 87) (pc := 64) hx hb dX4_failedAt_64 (by decide) (fun c_20 => ?_) (fun c_20 => ?_)
          · refine z_iconst (pc := 87) hx hb dX4_failedAt_87 ?_
            refine z_iadd (pc := 88) hx hb dX4_failedAt_88 ?_
            refine lv_istore (lv' := [(4, .int (zi ((z1 + 0)))), (6, .int (zi (1))), (0, .ref (ad 0)), (1, .int (zi (S))), (2, .int (zi (b))), (3, .int (zi (t))), (5, .int (zi (z2)))]) (pc := 89) hx hb dX4_failedAt_89 hl (by decide) rfl (fun ls hl => ?_)
            refine lv_iinc (v := zi (z2 + 1)) (lv' := [(5, .int (zi ((z2 + 1)))), (4, .int (zi ((z1 + 0)))), (6, .int (zi (1))), (0, .ref (ad 0)), (1, .int (zi (S))), (2, .int (zi (b))), (3, .int (zi (t)))]) (pc := 91) hx hb dX4_failedAt_91 hl (k := 6) rfl (zi_add _ _) (by decide) rfl (fun ls hl => ?_)
            refine lv_goto (tgt := 6) (pc := 94) hx hb dX4_failedAt_94 (by decide) ?_
            exact ih  _ _ (by first | (exfalso; omega) | (rw [e1]; simp only [cFl]; split <;> omega)) (by rw [e2]; rfl) ls (lv_sub hl [3, 4, 5, 6, 1, 0] rfl)
          · refine lv_iload (pc := 67) hx hb dX4_failedAt_67 (lv_at hl 0 rfl) ?_
            refine z_if_eq (tgt := 87) (pc := 69) hx hb dX4_failedAt_69 (by decide) (by omega) (fun c_21 => ?_) (fun c_21 => ?_)
            · refine z_iconst (pc := 87) hx hb dX4_failedAt_87 ?_
              refine z_iadd (pc := 88) hx hb dX4_failedAt_88 ?_
              refine lv_istore (lv' := [(4, .int (zi ((z1 + 0)))), (6, .int (zi (1))), (0, .ref (ad 0)), (1, .int (zi (S))), (2, .int (zi (b))), (3, .int (zi (t))), (5, .int (zi (z2)))]) (pc := 89) hx hb dX4_failedAt_89 hl (by decide) rfl (fun ls hl => ?_)
              refine lv_iinc (v := zi (z2 + 1)) (lv' := [(5, .int (zi ((z2 + 1)))), (4, .int (zi ((z1 + 0)))), (6, .int (zi (1))), (0, .ref (ad 0)), (1, .int (zi (S))), (2, .int (zi (b))), (3, .int (zi (t)))]) (pc := 91) hx hb dX4_failedAt_91 hl (k := 6) rfl (zi_add _ _) (by decide) rfl (fun ls hl => ?_)
              refine lv_goto (tgt := 6) (pc := 94) hx hb dX4_failedAt_94 (by decide) ?_
              exact ih  _ _ (by first | (exfalso; omega) | (rw [e1]; simp only [cFl]; split <;> omega)) (by rw [e2]; rfl) ls (lv_sub hl [3, 4, 5, 6, 1, 0] rfl)
            · refine lv_aload_n (pc := 72) hx hb dX4_failedAt_72 rfl (lv_at hl 1 rfl) ?_
              refine va_get (D := D) (cl := vwCl) (ci := 4) (v := .ref (ad 2)) (C := RX4) (T := TX4) (N := 17) (pc := 73) hx hb hT inT4 hown hK.1 hP 0 rfl rfl 2 (by decide) (hT _ tw_339) (fun _ h9 => h9) rfl dX4_failedAt_73 ?_
              refine lv_iload (pc := 76) hx hb dX4_failedAt_76 (lv_at hl 6 rfl) ?_
              refine z_iald (pc := 78) hx hb hK hP 2 (u) (f := hr) rfl (by omega) (by omega) (by omega) dX4_failedAt_78 ?_
              have r_22 := hhr (u)
              refine lv_iload_n (pc := 79) hx hb dX4_failedAt_79 rfl (lv_at hl 4 rfl) ?_
              refine z_icmp_ne (tgt := 87) (pc := 80) hx hb dX4_failedAt_80 (by decide) (by omega) (by omega) (fun c_23 => ?_) (fun c_23 => ?_)
              · refine z_iconst (pc := 87) hx hb dX4_failedAt_87 ?_
                refine z_iadd (pc := 88) hx hb dX4_failedAt_88 ?_
                refine lv_istore (lv' := [(4, .int (zi ((z1 + 0)))), (6, .int (zi (1))), (0, .ref (ad 0)), (1, .int (zi (S))), (2, .int (zi (b))), (3, .int (zi (t))), (5, .int (zi (z2)))]) (pc := 89) hx hb dX4_failedAt_89 hl (by decide) rfl (fun ls hl => ?_)
                refine lv_iinc (v := zi (z2 + 1)) (lv' := [(5, .int (zi ((z2 + 1)))), (4, .int (zi ((z1 + 0)))), (6, .int (zi (1))), (0, .ref (ad 0)), (1, .int (zi (S))), (2, .int (zi (b))), (3, .int (zi (t)))]) (pc := 91) hx hb dX4_failedAt_91 hl (k := 6) rfl (zi_add _ _) (by decide) rfl (fun ls hl => ?_)
                refine lv_goto (tgt := 6) (pc := 94) hx hb dX4_failedAt_94 (by decide) ?_
                exact ih  _ _ (by first | (exfalso; omega) | (rw [e1]; simp only [cFl]; split <;> omega)) (by rw [e2]; rfl) ls (lv_sub hl [3, 4, 5, 6, 1, 0] rfl)
              · refine z_iconst (pc := 83) hx hb dX4_failedAt_83 ?_
                refine lv_goto (tgt := 88) (pc := 84) hx hb dX4_failedAt_84 (by decide) ?_
                refine z_iadd (pc := 88) hx hb dX4_failedAt_88 ?_
                refine lv_istore (lv' := [(4, .int (zi ((z1 + 1)))), (6, .int (zi (1))), (0, .ref (ad 0)), (1, .int (zi (S))), (2, .int (zi (b))), (3, .int (zi (t))), (5, .int (zi (z2)))]) (pc := 89) hx hb dX4_failedAt_89 hl (by decide) rfl (fun ls hl => ?_)
                refine lv_iinc (v := zi (z2 + 1)) (lv' := [(5, .int (zi ((z2 + 1)))), (4, .int (zi ((z1 + 1)))), (6, .int (zi (1))), (0, .ref (ad 0)), (1, .int (zi (S))), (2, .int (zi (b))), (3, .int (zi (t)))]) (pc := 91) hx hb dX4_failedAt_91 hl (k := 6) rfl (zi_add _ _) (by decide) rfl (fun ls hl => ?_)
                refine lv_goto (tgt := 6) (pc := 94) hx hb dX4_failedAt_94 (by decide) ?_
                exact ih  _ _ (by first | (exfalso; omega) | (rw [e1]; simp only [cFl]; split <;> omega)) (by rw [e2]; rfl) ls (lv_sub hl [3, 4, 5, 6, 1, 0] rfl)
  refine z_iconst (pc := 0) hx hb dX4_failedAt_0 ?_
  refine lv_istore (lv' := [(4, .int (zi (0))), (0, .ref (ad 0)), (1, .int (zi (S))), (2, .int (zi (b))), (3, .int (zi (t)))]) (pc := 1) hx hb dX4_failedAt_1 hl (by decide) rfl (fun ls hl => ?_)
  refine z_iconst (pc := 3) hx hb dX4_failedAt_3 ?_
  refine lv_istore (lv' := [(5, .int (zi (0))), (4, .int (zi (0))), (0, .ref (ad 0)), (1, .int (zi (S))), (2, .int (zi (b))), (3, .int (zi (t)))]) (pc := 4) hx hb dX4_failedAt_4 hl (by decide) rfl (fun ls hl => ?_)
  exact loop 0 (by omega) _ _ (by rfl) (by rfl) ls (lv_sub hl [2, 3, 4, 5, 1, 0] rfl)

set_option maxHeartbeats 4000000 in
set_option maxRecDepth 100000 in
theorem c_X4_common (D : va_G) (cI cJ : ClassId) (l : Launch)  (y z : Int) (a b : Nat) (hy : y = (a : Int)) (hz : z = (b : Int)) (hq : a ≤ 281474976710656 ∧ b ≤ 281474976710656) : RD D cI cJ l yX4_common cX4_common 10 (some .long) 0 0 [.long (zj (y)), .long (zj (z))] [] (.long (zj (((Nat.gcd a b : Nat) : Int)))) := by
  subst hy
  subst hz
  refine RD.of (by decide) (Nat.le_of_ble_eq_true rfl) ?_
  intro p e s m args below meth c hx hb hrt hml hown hT hlk hK hP ls hl
  replace hl : lv_has ls 10 [(0, .long (zj ((a : Int)))), (2, .long (zj ((b : Int))))] := hl
  have loop : ∀ u : Nat, u ≤ 100 → ∀ (z1 z2 : Int), (GS a b u z1 z2) → ∀ ls : Array Slot, lv_has ls 10 [(4, .long (zj (z1))), (6, .long (zj (z2)))] → W p l e (RM 0 0) s m args below meth c s.heap [] 0 0 (MQ below (QR (.long (zj (((Nat.gcd a b : Nat) : Int)))) s.heap) args s 0 0 (fun _ => False)) (F0 m 17 ls []) := by
    refine lp_up (fun u => ∀ (z1 z2 : Int), (GS a b u z1 z2) → ∀ ls : Array Slot, lv_has ls 10 [(4, .long (zj (z1))), (6, .long (zj (z2)))] → W p l e (RM 0 0) s m args below meth c s.heap [] 0 0 (MQ below (QR (.long (zj (((Nat.gcd a b : Nat) : Int)))) s.heap) args s 0 0 (fun _ => False)) (F0 m 17 ls [])) (100) ?_ ?_
    · intro z1 z2 e1 ls hl
      have hg := GS_rng e1
      have h100 := GS_100 e1
      refine lv_lload (pc := 17) hx hb dX4_common_17 (lv_at hl 1 rfl) ?_
      refine z_lconst0 (pc := 19) hx hb dX4_common_19 ?_
      refine z_lcmp_eq (tgt := 42) (pc := 20) hx hb dX4_common_20 dX4_common_21 (by decide) (by omega) (by omega) (fun c_1 => ?_) (fun c_1 => absurd c_1 (by omega))
      refine lv_lload (pc := 42) hx hb dX4_common_42 (lv_at hl 0 rfl) ?_
      exact rd_lret hx hb hrt hlk dX4_common_44 (by rw [GS_end e1 (by assumption)])
    · intro u hu ih z1 z2 e1 ls hl
      have hg := GS_rng e1
      refine lv_lload (pc := 17) hx hb dX4_common_17 (lv_at hl 1 rfl) ?_
      refine z_lconst0 (pc := 19) hx hb dX4_common_19 ?_
      refine z_lcmp_eq (tgt := 42) (pc := 20) hx hb dX4_common_20 dX4_common_21 (by decide) (by omega) (by omega) (fun c_2 => ?_) (fun c_2 => ?_)
      · refine lv_lload (pc := 42) hx hb dX4_common_42 (lv_at hl 0 rfl) ?_
        exact rd_lret hx hb hrt hlk dX4_common_44 (by rw [GS_end e1 (by assumption)])
      · refine lv_lload (pc := 24) hx hb dX4_common_24 (lv_at hl 0 rfl) ?_
        refine lv_lload (pc := 26) hx hb dX4_common_26 (lv_at hl 1 rfl) ?_
        refine z_lrem (pc := 28) hx hb (by omega) dX4_common_28 ?_
        refine lv_lstore (lv' := [(8, .long (zj ((z1 % z2)))), (4, .long (zj (z1))), (6, .long (zj (z2)))]) (pc := 29) hx hb dX4_common_29 hl (by decide) rfl (fun ls hl => ?_)
        refine lv_lload (pc := 31) hx hb dX4_common_31 (lv_at hl 2 rfl) ?_
        refine lv_lstore (lv' := [(4, .long (zj (z2))), (8, .long (zj ((z1 % z2)))), (6, .long (zj (z2)))]) (pc := 33) hx hb dX4_common_33 hl (by decide) rfl (fun ls hl => ?_)
        refine lv_lload (pc := 35) hx hb dX4_common_35 (lv_at hl 1 rfl) ?_
        refine lv_lstore (lv' := [(6, .long (zj ((z1 % z2)))), (4, .long (zj (z2))), (8, .long (zj ((z1 % z2))))]) (pc := 37) hx hb dX4_common_37 hl (by decide) rfl (fun ls hl => ?_)
        refine lv_goto (tgt := 17) (pc := 39) hx hb dX4_common_39 (by decide) ?_
        exact ih  _ _ (GS_step e1 c_2) ls (lv_sub hl [1, 0] rfl)
  refine lv_lload_n (pc := 0) hx hb dX4_common_0 rfl (lv_at hl 0 rfl) ?_
  refine z_lconst0 (pc := 1) hx hb dX4_common_1 ?_
  refine z_lcmp_ge (tgt := 11) (pc := 2) hx hb dX4_common_2 dX4_common_3 (by decide) (by omega) (by omega) (fun c_3 => ?_) (fun c_3 => absurd c_3 (by omega))
  refine lv_lload_n (pc := 11) hx hb dX4_common_11 rfl (lv_at hl 0 rfl) ?_
  refine lv_lstore (lv' := [(4, .long (zj ((a : Int)))), (0, .long (zj ((a : Int)))), (2, .long (zj ((b : Int))))]) (pc := 12) hx hb dX4_common_12 hl (by decide) rfl (fun ls hl => ?_)
  refine lv_lload_n (pc := 14) hx hb dX4_common_14 rfl (lv_at hl 2 rfl) ?_
  refine lv_lstore (lv' := [(6, .long (zj ((b : Int)))), (4, .long (zj ((a : Int)))), (0, .long (zj ((a : Int)))), (2, .long (zj ((b : Int))))]) (pc := 15) hx hb dX4_common_15 hl (by decide) rfl (fun ls hl => ?_)
  exact loop 0 (by omega) _ _ (GS_0 hq) ls (lv_sub hl [1, 0] rfl)

set_option maxHeartbeats 4000000 in
set_option maxRecDepth 100000 in
theorem c_X4_speed (D : va_G) (cI cJ : ClassId) (l : Launch) (ad : Nat → Nat) (n : Int) (st hr ca sp : Nat → Int) (k : Int) (ts th : Nat → Int) (pr hc lu ll up lo : Int) (fr rr hv : Nat → Int) (a : Int) (r_a : -2147483648 ≤ a ∧ a ≤ 2147483647) (v : Int) (r_v : -2147483648 ≤ v ∧ v ≤ 2147483647) : WR D cI cJ l yX4_speed cX4_speed 4 (some .int) 2 45 [.ref (ad 0), .int (zi (a)), .int (zi (v))] (wM ad cI n st hr ca sp k ts th pr hc lu ll up lo fr rr hv) (fun v' ws' => ∃ x : Int × (Nat → Int), x = speedS sp a v ∧ v' = .int (zi x.1) ∧ ws' = (wM ad cI n st hr ca x.2 k ts th pr hc lu ll up lo fr rr hv)) := by
  refine WR.of (by decide) (Nat.le_of_ble_eq_true rfl) ?_
  intro p e s m args below meth c hx hb hrt hml hown hT hlk hK hP hD hS ls hl
  replace hl : lv_has ls 4 [(0, .ref (ad 0)), (1, .int (zi (a))), (2, .int (zi (v)))] := hl
  refine lv_iload_n (pc := 0) hx hb dX4_speed_0 rfl (lv_at hl 1 rfl) ?_
  refine rd_S (pc := 1) hx hb hml hown hT hK (c_X4_isStress D cI cJ l (a) (by omega)) ca_X4_isStress tw_396 va_Pnil ⟨Nat.le_of_ble_eq_true rfl, Nat.le_of_ble_eq_true rfl⟩ rfl hl.1 (As := [.int (zi (a))]) (rest := []) rfl (Nat.le_of_ble_eq_true rfl) ⟨Nat.le_of_ble_eq_true rfl, Nat.le_of_ble_eq_true rfl⟩ dX4_speed_1 ?_
  refine z_ifB_eq (tgt := 19) (pc := 4) hx hb dX4_speed_4 (by decide) (fun c_1 => ?_) (fun c_1 => ?_)
  · refine z_sipush (pc := 19) hx hb dX4_speed_19 (by decide) ?_
    exact wr_iret hx hb hrt hlk dX4_speed_22 hP hS (⟨(-1002, sp), by rw [speedS, if_neg (by omega)], rfl, rfl⟩)
  · refine lv_iload_n (pc := 7) hx hb dX4_speed_7 rfl (lv_at hl 2 rfl) ?_
    refine z_i2l (pc := 8) hx hb (by omega) dX4_speed_8 ?_
    refine z_lconst1 (pc := 9) hx hb dX4_speed_9 ?_
    refine z_ldc2 (pc := 10) hx hb (1000) hown (hT _ tw_478) (by decide) dX4_speed_10 ?_
    refine rd_S (pc := 13) hx hb hml hown hT hK (c_X4_in D cI cJ l (v) (by omega) (1) (by omega) (1000) (by omega)) ca_X4_in tw_400 va_Pnil ⟨Nat.le_of_ble_eq_true rfl, Nat.le_of_ble_eq_true rfl⟩ rfl hl.1 (As := [.long (zj (v)), .long (zj (1)), .long (zj (1000))]) (rest := []) rfl (Nat.le_of_ble_eq_true rfl) ⟨Nat.le_of_ble_eq_true rfl, Nat.le_of_ble_eq_true rfl⟩ dX4_speed_13 ?_
    refine z_ifB_ne (tgt := 23) (pc := 16) hx hb dX4_speed_16 (by decide) (fun c_2 => ?_) (fun c_2 => ?_)
    · refine lv_aload_n (pc := 23) hx hb dX4_speed_23 rfl (lv_at hl 0 rfl) ?_
      refine va_get (D := D) (cl := vwCl) (ci := 4) (v := .ref (ad 4)) (C := RX4) (T := TX4) (N := 17) (pc := 24) hx hb hT inT4 hown hK.1 hP 0 rfl rfl 4 (by decide) (hT _ tw_341) (fun _ h9 => h9) rfl dX4_speed_24 ?_
      refine lv_iload_n (pc := 27) hx hb dX4_speed_27 rfl (lv_at hl 1 rfl) ?_
      refine z_iald (pc := 28) hx hb hK hP 4 (a.toNat) (f := sp) rfl (by omega) (by omega) (by omega) dX4_speed_28 ?_
      refine lv_istore_n (lv' := [(3, .int (zi ((sp (a.toNat))))), (0, .ref (ad 0)), (1, .int (zi (a))), (2, .int (zi (v)))]) (pc := 29) hx hb dX4_speed_29 rfl hl (by decide) rfl (fun ls hl => ?_)
      refine lv_aload_n (pc := 30) hx hb dX4_speed_30 rfl (lv_at hl 1 rfl) ?_
      refine va_get (D := D) (cl := vwCl) (ci := 4) (v := .ref (ad 4)) (C := RX4) (T := TX4) (N := 17) (pc := 31) hx hb hT inT4 hown hK.1 hP 0 rfl rfl 4 (by decide) (hT _ tw_341) (fun _ h9 => h9) rfl dX4_speed_31 ?_
      refine lv_iload_n (pc := 34) hx hb dX4_speed_34 rfl (lv_at hl 2 rfl) ?_
      refine lv_iload_n (pc := 35) hx hb dX4_speed_35 rfl (lv_at hl 3 rfl) ?_
      refine z_iast (pc := 36) hx hb hK hP hD hS 4 (a.toNat) (f := sp) (x := v) rfl (by omega) (by omega) (by omega) dX4_speed_36 (fun H locs hP hD hS => ?_)
      replace hP : va_P D vwCl (wM ad cI n st hr ca (uZ sp (a.toNat) (v)) k ts th pr hc lu ll up lo fr rr hv) H := hP
      replace hD : va_D (inW (wM ad cI n st hr ca sp k ts th pr hc lu ll up lo fr rr hv)) (wM ad cI n st hr ca (uZ sp (a.toNat) (v)) k ts th pr hc lu ll up lo fr rr hv) := hD
      refine lv_iload_n (pc := 37) hx hb dX4_speed_37 rfl (lv_at hl 0 rfl) ?_
      exact wr_iret hx hb hrt hlk dX4_speed_38 hP hS (⟨(sp a.toNat, uZ sp a.toNat v), by rw [speedS, if_pos (by omega)], rfl, rfl⟩)
    · refine z_sipush (pc := 19) hx hb dX4_speed_19 (by decide) ?_
      exact wr_iret hx hb hrt hlk dX4_speed_22 hP hS (⟨(-1002, sp), by rw [speedS, if_neg (by omega)], rfl, rfl⟩)

set_option maxHeartbeats 4000000 in
set_option maxRecDepth 100000 in
theorem c_X4_saysOf (D : va_G) (cI cJ : ClassId) (l : Launch)  (b s_ z : Int) (K : Nat) (hz : z = (K : Int)) (hq : 0 ≤ b ∧ b ≤ 200000000 ∧ 1 ≤ s_ ∧ s_ ≤ 20 ∧ K ≤ 3) : RD D cI cJ l yX4_saysOf cX4_saysOf 5 (some .int) 0 0 [.int (zi (b)), .int (zi (s_)), .int (zi (z))] [] (.int (zi (saysZ b s_ K))) := by
  subst hz
  refine RD.of (by decide) (Nat.le_of_ble_eq_true rfl) ?_
  intro p e s m args below meth c hx hb hrt hml hown hT hlk hK hP ls hl
  replace hl : lv_has ls 5 [(0, .int (zi (b))), (1, .int (zi (s_))), (2, .int (zi ((K : Int))))] := hl
  have loop : ∀ u : Nat, u ≤ K → ∀ (z1 z2 : Int), (z1 = saysZ b s_ u) → (z2 = (u : Int)) → ∀ ls : Array Slot, lv_has ls 5 [(0, .int (zi (b))), (1, .int (zi (s_))), (2, .int (zi ((K : Int)))), (3, .int (zi (z1))), (4, .int (zi (z2)))] → W p l e (RM 0 0) s m args below meth c s.heap [] 0 0 (MQ below (QR (.int (zi (saysZ b s_ K))) s.heap) args s 0 0 (fun _ => False)) (F0 m 5 ls []) := by
    refine lp_up (fun u => ∀ (z1 z2 : Int), (z1 = saysZ b s_ u) → (z2 = (u : Int)) → ∀ ls : Array Slot, lv_has ls 5 [(0, .int (zi (b))), (1, .int (zi (s_))), (2, .int (zi ((K : Int)))), (3, .int (zi (z1))), (4, .int (zi (z2)))] → W p l e (RM 0 0) s m args below meth c s.heap [] 0 0 (MQ below (QR (.int (zi (saysZ b s_ K))) s.heap) args s 0 0 (fun _ => False)) (F0 m 5 ls [])) (K) ?_ ?_
    · intro z1 z2 e1 e2 ls hl
      have hr1 := saysZ_rng b s_ hq.1 hq.2.2.1 K
      refine lv_iload (pc := 5) hx hb dX4_saysOf_5 (lv_at hl 4 rfl) ?_
      refine lv_iload_n (pc := 7) hx hb dX4_saysOf_7 rfl (lv_at hl 2 rfl) ?_
      refine z_icmp_ge (tgt := 27) (pc := 8) hx hb dX4_saysOf_8 (by decide) (by omega) (by omega) (fun c_1 => ?_) (fun c_1 => absurd c_1 (by omega))
      refine lv_iload_n (pc := 27) hx hb dX4_saysOf_27 rfl (lv_at hl 3 rfl) ?_
      exact rd_iret hx hb hrt hlk dX4_saysOf_28 (by rw [e1])
    · intro u hu ih z1 z2 e1 e2 ls hl
      have hr1 := saysZ_rng b s_ hq.1 hq.2.2.1 u
      refine lv_iload (pc := 5) hx hb dX4_saysOf_5 (lv_at hl 4 rfl) ?_
      refine lv_iload_n (pc := 7) hx hb dX4_saysOf_7 rfl (lv_at hl 2 rfl) ?_
      refine z_icmp_ge (tgt := 27) (pc := 8) hx hb dX4_saysOf_8 (by decide) (by omega) (by omega) (fun c_2 => absurd c_2 (by omega)) (fun c_2 => ?_)
      refine lv_iload_n (pc := 11) hx hb dX4_saysOf_11 rfl (lv_at hl 3 rfl) ?_
      refine z_bipush (pc := 12) hx hb dX4_saysOf_12 (by decide) ?_
      refine z_imul (pc := 14) hx hb dX4_saysOf_14 ?_
      refine z_bipush (pc := 15) hx hb dX4_saysOf_15 (by decide) ?_
      refine lv_iload_n (pc := 17) hx hb dX4_saysOf_17 rfl (lv_at hl 1 rfl) ?_
      refine z_iadd (pc := 18) hx hb dX4_saysOf_18 ?_
      refine z_idiv (pc := 19) hx hb (by omega) dX4_saysOf_19 ?_
      refine lv_istore_n (lv' := [(3, .int (zi (((z1 * 10) / (10 + s_))))), (0, .int (zi (b))), (1, .int (zi (s_))), (2, .int (zi ((K : Int)))), (4, .int (zi (z2)))]) (pc := 20) hx hb dX4_saysOf_20 rfl hl (by decide) rfl (fun ls hl => ?_)
      refine lv_iinc (v := zi (z2 + 1)) (lv' := [(4, .int (zi ((z2 + 1)))), (3, .int (zi (((z1 * 10) / (10 + s_))))), (0, .int (zi (b))), (1, .int (zi (s_))), (2, .int (zi ((K : Int))))]) (pc := 21) hx hb dX4_saysOf_21 hl (k := 4) rfl (zi_add _ _) (by decide) rfl (fun ls hl => ?_)
      refine lv_goto (tgt := 5) (pc := 24) hx hb dX4_saysOf_24 (by decide) ?_
      exact ih  _ _ (by rw [e1]; rfl) (by rw [e2]; rfl) ls (lv_sub hl [2, 3, 4, 1, 0] rfl)
  refine lv_iload_n (pc := 0) hx hb dX4_saysOf_0 rfl (lv_at hl 0 rfl) ?_
  refine lv_istore_n (lv' := [(3, .int (zi (b))), (0, .int (zi (b))), (1, .int (zi (s_))), (2, .int (zi ((K : Int))))]) (pc := 1) hx hb dX4_saysOf_1 rfl hl (by decide) rfl (fun ls hl => ?_)
  refine z_iconst (pc := 2) hx hb dX4_saysOf_2 ?_
  refine lv_istore (lv' := [(4, .int (zi (0))), (3, .int (zi (b))), (0, .int (zi (b))), (1, .int (zi (s_))), (2, .int (zi ((K : Int))))]) (pc := 3) hx hb dX4_saysOf_3 hl (by decide) rfl (fun ls hl => ?_)
  exact loop 0 (by omega) _ _ (by rfl) (by rfl) ls (lv_sub hl [2, 3, 4, 1, 0] rfl)

set_option maxHeartbeats 4000000 in
set_option maxRecDepth 100000 in
theorem c_X4_says (D : va_G) (cI cJ : ClassId) (l : Launch) (ad : Nat → Nat) (n : Int) (st hr ca sp : Nat → Int) (k : Int) (ts th : Nat → Int) (pr hc lu ll up lo : Int) (fr rr hv : Nat → Int) (b : Int) (r_b : -2147483648 ≤ b ∧ b ≤ 2147483647) (s_ : Int) (r_s_ : -2147483648 ≤ s_ ∧ s_ ≤ 2147483647) (a : Int) (r_a : -2147483648 ≤ a ∧ a ≤ 2147483647) : RD D cI cJ l yX4_says cX4_says 4 (some .int) 2 46 [.ref (ad 0), .int (zi (b)), .int (zi (s_)), .int (zi (a))] (wM ad cI n st hr ca sp k ts th pr hc lu ll up lo fr rr hv) (.int (zi (saysV b s_ a))) := by
  refine RD.of (by decide) (Nat.le_of_ble_eq_true rfl) ?_
  intro p e s m args below meth c hx hb hrt hml hown hT hlk hK hP ls hl
  replace hl : lv_has ls 4 [(0, .ref (ad 0)), (1, .int (zi (b))), (2, .int (zi (s_))), (3, .int (zi (a)))] := hl
  refine lv_iload_n (pc := 0) hx hb dX4_says_0 rfl (lv_at hl 1 rfl) ?_
  refine lv_iload_n (pc := 1) hx hb dX4_says_1 rfl (lv_at hl 2 rfl) ?_
  refine rd_S (pc := 2) hx hb hml hown hT hK (c_X4_isLaw D cI cJ l (b) (by omega) (s_) (by omega)) ca_X4_isLaw tw_520 va_Pnil ⟨Nat.le_of_ble_eq_true rfl, Nat.le_of_ble_eq_true rfl⟩ rfl hl.1 (As := [.int (zi (b)), .int (zi (s_))]) (rest := []) rfl (Nat.le_of_ble_eq_true rfl) ⟨Nat.le_of_ble_eq_true rfl, Nat.le_of_ble_eq_true rfl⟩ dX4_says_2 ?_
  refine z_ifB_eq (tgt := 24) (pc := 5) hx hb dX4_says_5 (by decide) (fun c_1 => ?_) (fun c_1 => ?_)
  · refine z_sipush (pc := 24) hx hb dX4_says_24 (by decide) ?_
    exact rd_iret hx hb hrt hlk dX4_says_27 (by rw [saysV, if_neg (by omega)])
  · refine lv_iload_n (pc := 8) hx hb dX4_says_8 rfl (lv_at hl 3 rfl) ?_
    refine rd_S (pc := 9) hx hb hml hown hT hK (c_X4_isStress D cI cJ l (a) (by omega)) ca_X4_isStress tw_396 va_Pnil ⟨Nat.le_of_ble_eq_true rfl, Nat.le_of_ble_eq_true rfl⟩ rfl hl.1 (As := [.int (zi (a))]) (rest := []) rfl (Nat.le_of_ble_eq_true rfl) ⟨Nat.le_of_ble_eq_true rfl, Nat.le_of_ble_eq_true rfl⟩ dX4_says_9 ?_
    refine z_ifB_eq (tgt := 24) (pc := 12) hx hb dX4_says_12 (by decide) (fun c_2 => ?_) (fun c_2 => ?_)
    · refine z_sipush (pc := 24) hx hb dX4_says_24 (by decide) ?_
      exact rd_iret hx hb hrt hlk dX4_says_27 (by rw [saysV, if_neg (by omega)])
    · refine lv_iload_n (pc := 15) hx hb dX4_says_15 rfl (lv_at hl 1 rfl) ?_
      refine lv_iload_n (pc := 16) hx hb dX4_says_16 rfl (lv_at hl 2 rfl) ?_
      refine lv_iload_n (pc := 17) hx hb dX4_says_17 rfl (lv_at hl 3 rfl) ?_
      refine rd_S (pc := 18) hx hb hml hown hT hK (c_X4_saysOf D cI cJ l (b) (s_) (a) ((a).toNat) (by omega) (by omega)) ca_X4_saysOf tw_525 va_Pnil ⟨Nat.le_of_ble_eq_true rfl, Nat.le_of_ble_eq_true rfl⟩ rfl hl.1 (As := [.int (zi (b)), .int (zi (s_)), .int (zi (a))]) (rest := []) rfl (Nat.le_of_ble_eq_true rfl) ⟨Nat.le_of_ble_eq_true rfl, Nat.le_of_ble_eq_true rfl⟩ dX4_says_18 ?_
      refine lv_goto (tgt := 27) (pc := 21) hx hb dX4_says_21 (by decide) ?_
      exact rd_iret hx hb hrt hlk dX4_says_27 (by rw [saysV, if_pos (by omega)])
