/-! what the calls that change the UNITS, the TRIAL, the SPEEDS and the rules do -/
abbrev okU (a b d : Int) : Prop := (0 ≤ a ∧ a ≤ 3) ∧ (1 ≤ b ∧ b ≤ 500) ∧ (-1 ≤ d ∧ d ≤ 2)
def unitS (n : Int) (st hr ca : Nat → Int) (a b d : Int) : Int × Int × (Nat → Int) × (Nat → Int) × (Nat → Int) :=
  if okU a b d then (if n < 12 then (n, n + 1, uZ st n.toNat a, uZ hr n.toNat b, uZ ca n.toNat d) else (-1004, n, st, hr, ca)) else (-1002, n, st, hr, ca)
def setS (n : Int) (st hr ca : Nat → Int) (z a b d : Int) : Int × (Nat → Int) × (Nat → Int) × (Nat → Int) :=
  if 0 ≤ z ∧ z ≤ n - 1 then (if okU a b d then (1, uZ st z.toNat a, uZ hr z.toNat b, uZ ca z.toNat d) else (-1002, st, hr, ca)) else (-1001, st, hr, ca)
def dropS (n : Int) : Int × Int := if n = 0 then (-1003, n) else (n - 1, n - 1)
def speedS (sp : Nat → Int) (a v : Int) : Int × (Nat → Int) := if (0 ≤ a ∧ a ≤ 3) ∧ (1 ≤ v ∧ v ≤ 1000) then (sp a.toNat, uZ sp a.toNat v) else (-1002, sp)
def stepS (k : Int) (ts th : Nat → Int) (a b : Int) : Int × Int × (Nat → Int) × (Nat → Int) :=
  if (0 ≤ a ∧ a ≤ 3) ∧ (1 ≤ b ∧ b ≤ 500) then (if k < 10 then (k + 1, k + 1, uZ ts k.toNat a, uZ th k.toNat b) else (-1004, k, ts, th)) else (-1002, k, ts, th)
def ruleS (pr hc w v : Int) : Int × Int × Int :=
  if w = 0 ∧ (1 ≤ v ∧ v ≤ 500) then (pr, v, hc) else if w = 1 ∧ (0 ≤ v ∧ v ≤ 20) then (hc, pr, v) else (-1002, pr, hc)

set_option maxHeartbeats 4000000 in
set_option maxRecDepth 100000 in
theorem c_X2_put (D : va_G) (cI cJ : ClassId) (l : Launch) (ad : Nat → Nat) (n : Int) (st hr ca : Nat → Int) (pcs : Int) (fr lv : Nat → Int) (k : Int) (ts th sp hv : Nat → Int) (pr hc : Int) (hn : 0 ≤ n ∧ n ≤ 12) (z : Int) (hz : 0 ≤ z ∧ z < n) (a : Int) (r_a : -2147483648 ≤ a ∧ a ≤ 2147483647) (b : Int) (r_b : -2147483648 ≤ b ∧ b ≤ 2147483647) (d : Int) (r_d : -2147483648 ≤ d ∧ d ≤ 2147483647) : WV D cI cJ l yX2_put cX2_put 5 2 43 [.ref (ad 1), .int (zi (z)), .int (zi (a)), .int (zi (b)), .int (zi (d))] (wX ad cI cJ n st hr ca pcs fr lv k ts th sp hv pr hc) (fun ws' => ws' = (wX ad cI cJ n (uZ st z.toNat a) (uZ hr z.toNat b) (uZ ca z.toNat d) pcs fr lv k ts th sp hv pr hc)) := by
  refine WV.of (by decide) (Nat.le_of_ble_eq_true rfl) ?_
  intro p e s m args below meth c hx hb hrt hml hown hT hlk hK hP hD hS ls hl
  replace hl : lv_has ls 5 [(0, .ref (ad 1)), (1, .int (zi (z))), (2, .int (zi (a))), (3, .int (zi (b))), (4, .int (zi (d)))] := hl
  refine lv_aload_n (pc := 0) hx hb dX2_put_0 rfl (lv_at hl 0 rfl) ?_
  refine lv_iload_n (pc := 1) hx hb dX2_put_1 rfl (lv_at hl 1 rfl) ?_
  refine rd_V (pc := 2) hx hb hml hown hT hK (c_X2_has D cI cJ l ad n st hr ca pcs fr lv k ts th sp hv pr hc (by omega) (z) (by omega)) ca_X2_has tw_114 hP 1 2 rfl rfl rfl ⟨Nat.le_of_ble_eq_true rfl, Nat.le_of_ble_eq_true rfl⟩ rfl hl.1 (As := [.int (zi (z))]) (rest := []) rfl (Nat.le_of_ble_eq_true rfl) ⟨Nat.le_of_ble_eq_true rfl, Nat.le_of_ble_eq_true rfl⟩ dX2_put_2 ?_
  refine z_ifB_eq (tgt := 30) (pc := 5) hx hb dX2_put_5 (by decide) (fun c_1 => absurd c_1 (by omega)) (fun c_1 => ?_)
  refine lv_aload_n (pc := 8) hx hb dX2_put_8 rfl (lv_at hl 0 rfl) ?_
  refine va_get (D := D) (cl := vwCl) (ci := 2) (v := .ref (ad 6)) (C := RX2) (T := TX2) (N := 4) (pc := 9) hx hb hT inT2 hown hK.1 hP 1 rfl rfl 0 (by decide) (hT _ tw_21) (fun _ h9 => h9) rfl dX2_put_9 ?_
  refine lv_iload_n (pc := 12) hx hb dX2_put_12 rfl (lv_at hl 1 rfl) ?_
  refine lv_iload_n (pc := 13) hx hb dX2_put_13 rfl (lv_at hl 2 rfl) ?_
  refine z_iast (pc := 14) hx hb hK hP hD hS 6 (z.toNat) (f := st) (x := a) rfl (by omega) (by omega) (by omega) dX2_put_14 (fun H locs hP hD hS => ?_)
  replace hP : va_P D vwCl (wX ad cI cJ n (uZ st (z.toNat) (a)) hr ca pcs fr lv k ts th sp hv pr hc) H := hP
  replace hD : va_D (inW (wX ad cI cJ n st hr ca pcs fr lv k ts th sp hv pr hc)) (wX ad cI cJ n (uZ st (z.toNat) (a)) hr ca pcs fr lv k ts th sp hv pr hc) := hD
  refine lv_aload_n (pc := 15) hx hb dX2_put_15 rfl (lv_at hl 0 rfl) ?_
  refine va_get (D := D) (cl := vwCl) (ci := 2) (v := .ref (ad 7)) (C := RX2) (T := TX2) (N := 4) (pc := 16) hx hb hT inT2 hown hK.1 hP 1 rfl rfl 1 (by decide) (hT _ tw_23) (fun _ h9 => h9) rfl dX2_put_16 ?_
  refine lv_iload_n (pc := 19) hx hb dX2_put_19 rfl (lv_at hl 1 rfl) ?_
  refine lv_iload_n (pc := 20) hx hb dX2_put_20 rfl (lv_at hl 3 rfl) ?_
  refine z_iast (pc := 21) hx hb hK hP hD hS 7 (z.toNat) (f := hr) (x := b) rfl (by omega) (by omega) (by omega) dX2_put_21 (fun H locs hP hD hS => ?_)
  replace hP : va_P D vwCl (wX ad cI cJ n (uZ st (z.toNat) (a)) (uZ hr (z.toNat) (b)) ca pcs fr lv k ts th sp hv pr hc) H := hP
  replace hD : va_D (inW (wX ad cI cJ n st hr ca pcs fr lv k ts th sp hv pr hc)) (wX ad cI cJ n (uZ st (z.toNat) (a)) (uZ hr (z.toNat) (b)) ca pcs fr lv k ts th sp hv pr hc) := hD
  refine lv_aload_n (pc := 22) hx hb dX2_put_22 rfl (lv_at hl 0 rfl) ?_
  refine va_get (D := D) (cl := vwCl) (ci := 2) (v := .ref (ad 8)) (C := RX2) (T := TX2) (N := 4) (pc := 23) hx hb hT inT2 hown hK.1 hP 1 rfl rfl 2 (by decide) (hT _ tw_25) (fun _ h9 => h9) rfl dX2_put_23 ?_
  refine lv_iload_n (pc := 26) hx hb dX2_put_26 rfl (lv_at hl 1 rfl) ?_
  refine lv_iload (pc := 27) hx hb dX2_put_27 (lv_at hl 4 rfl) ?_
  refine z_iast (pc := 29) hx hb hK hP hD hS 8 (z.toNat) (f := ca) (x := d) rfl (by omega) (by omega) (by omega) dX2_put_29 (fun H locs hP hD hS => ?_)
  replace hP : va_P D vwCl (wX ad cI cJ n (uZ st (z.toNat) (a)) (uZ hr (z.toNat) (b)) (uZ ca (z.toNat) (d)) pcs fr lv k ts th sp hv pr hc) H := hP
  replace hD : va_D (inW (wX ad cI cJ n st hr ca pcs fr lv k ts th sp hv pr hc)) (wX ad cI cJ n (uZ st (z.toNat) (a)) (uZ hr (z.toNat) (b)) (uZ ca (z.toNat) (d)) pcs fr lv k ts th sp hv pr hc) := hD
  exact wv_ret hx hb hrt hlk dX2_put_30 hP hS (rfl)

set_option maxHeartbeats 4000000 in
set_option maxRecDepth 100000 in
theorem c_X3_unit (D : va_G) (cI cJ : ClassId) (l : Launch) (ad : Nat → Nat) (n : Int) (st hr ca : Nat → Int) (pcs : Int) (fr lv : Nat → Int) (k : Int) (ts th sp hv : Nat → Int) (pr hc : Int) (hU : VU n st hr ca) (a : Int) (r_a : -2147483648 ≤ a ∧ a ≤ 2147483647) (b : Int) (r_b : -2147483648 ≤ b ∧ b ≤ 2147483647) (d : Int) (r_d : -2147483648 ≤ d ∧ d ≤ 2147483647) : WR D cI cJ l yX3_unit cX3_unit 4 (some .int) 3 67 [.ref (ad 0), .int (zi (a)), .int (zi (b)), .int (zi (d))] (wX ad cI cJ n st hr ca pcs fr lv k ts th sp hv pr hc) (fun v' ws' => ∃ x : Int × Int × (Nat → Int) × (Nat → Int) × (Nat → Int), x = unitS n st hr ca a b d ∧ v' = .int (zi x.1) ∧ ws' = (wX ad cI cJ x.2.1 x.2.2.1 x.2.2.2.1 x.2.2.2.2 pcs fr lv k ts th sp hv pr hc)) := by
  refine WR.of (by decide) (Nat.le_of_ble_eq_true rfl) ?_
  intro p e s m args below meth c hx hb hrt hml hown hT hlk hK hP hD hS ls hl
  replace hl : lv_has ls 4 [(0, .ref (ad 0)), (1, .int (zi (a))), (2, .int (zi (b))), (3, .int (zi (d)))] := hl
  obtain ⟨hn, hst, hhr, hh1, hca⟩ := id hU
  refine lv_iload_n (pc := 0) hx hb dX3_unit_0 rfl (lv_at hl 1 rfl) ?_
  refine lv_iload_n (pc := 1) hx hb dX3_unit_1 rfl (lv_at hl 2 rfl) ?_
  refine lv_iload_n (pc := 2) hx hb dX3_unit_2 rfl (lv_at hl 3 rfl) ?_
  refine rd_S (pc := 3) hx hb hml hown hT hK (c_X3_isUnit D cI cJ l (a) (by omega) (b) (by omega) (d) (by omega)) ca_X3_isUnit tw_101 va_Pnil ⟨Nat.le_of_ble_eq_true rfl, Nat.le_of_ble_eq_true rfl⟩ rfl hl.1 (As := [.int (zi (a)), .int (zi (b)), .int (zi (d))]) (rest := []) rfl (Nat.le_of_ble_eq_true rfl) ⟨Nat.le_of_ble_eq_true rfl, Nat.le_of_ble_eq_true rfl⟩ dX3_unit_3 ?_
  refine z_ifB_ne (tgt := 13) (pc := 6) hx hb dX3_unit_6 (by decide) (fun c_1 => ?_) (fun c_1 => ?_)
  · refine lv_aload_n (pc := 13) hx hb dX3_unit_13 rfl (lv_at hl 0 rfl) ?_
    refine va_get (D := D) (cl := vwCl) (ci := 3) (v := .ref (ad 1)) (C := RX3) (T := TX3) (N := 7) (pc := 14) hx hb hT inT3 hown hK.1 hP 0 rfl rfl 0 (by decide) (hT _ tw_75) (fun _ h9 => h9) rfl dX3_unit_14 ?_
    refine va_get (D := D) (cl := vwCl) (ci := 2) (v := .int (zi (n))) (C := RX2) (T := TX2) (N := 4) (pc := 17) hx hb hT inT2 hown hK.1 hP 1 rfl rfl 3 (by decide) (hT _ tw_28) (fun _ h9 => h9) rfl dX3_unit_17 ?_
    refine z_bipush (pc := 20) hx hb dX3_unit_20 (by decide) ?_
    refine z_icmp_lt (tgt := 29) (pc := 22) hx hb dX3_unit_22 (by decide) (by omega) (by omega) (fun c_2 => ?_) (fun c_2 => ?_)
    · refine lv_aload_n (pc := 29) hx hb dX3_unit_29 rfl (lv_at hl 0 rfl) ?_
      refine va_get (D := D) (cl := vwCl) (ci := 3) (v := .ref (ad 1)) (C := RX3) (T := TX3) (N := 7) (pc := 30) hx hb hT inT3 hown hK.1 hP 0 rfl rfl 0 (by decide) (hT _ tw_75) (fun _ h9 => h9) rfl dX3_unit_30 ?_
      refine lv_dup (pc := 33) hx hb dX3_unit_33 rfl ?_
      refine va_get (D := D) (cl := vwCl) (ci := 2) (v := .int (zi (n))) (C := RX2) (T := TX2) (N := 4) (pc := 34) hx hb hT inT2 hown hK.1 hP 1 rfl rfl 3 (by decide) (hT _ tw_28) (fun _ h9 => h9) rfl dX3_unit_34 ?_
      refine z_iconst (pc := 37) hx hb dX3_unit_37 ?_
      refine z_iadd (pc := 38) hx hb dX3_unit_38 ?_
      refine va_put (D := D) (cl := vwCl) (ci := 2) (v := .int (zi ((n + 1)))) (ty := .int) (C := RX2) (T := TX2) (N := 4) (pc := 39) hx hb hT inT2 tyX2 tyX2_ok nmX2 hown hK.1 hP hD hS 1 rfl rfl 3 (by decide) (hT _ tw_28) (fun _ h9 => h9) rfl (by decide +kernel) rfl rfl (Nat.le_of_ble_eq_true rfl) dX3_unit_39 (fun H locs hP hD hS => ?_)
      replace hP : va_P D vwCl (wX ad cI cJ ((n + 1)) st hr ca pcs fr lv k ts th sp hv pr hc) H := hP
      replace hD : va_D (inW (wX ad cI cJ n st hr ca pcs fr lv k ts th sp hv pr hc)) (wX ad cI cJ ((n + 1)) st hr ca pcs fr lv k ts th sp hv pr hc) := hD
      refine lv_aload_n (pc := 42) hx hb dX3_unit_42 rfl (lv_at hl 0 rfl) ?_
      refine va_get (D := D) (cl := vwCl) (ci := 3) (v := .ref (ad 1)) (C := RX3) (T := TX3) (N := 7) (pc := 43) hx hb hT inT3 hown hK.1 hP 0 rfl rfl 0 (by decide) (hT _ tw_75) (fun _ h9 => h9) rfl dX3_unit_43 ?_
      refine lv_aload_n (pc := 46) hx hb dX3_unit_46 rfl (lv_at hl 0 rfl) ?_
      refine va_get (D := D) (cl := vwCl) (ci := 3) (v := .ref (ad 1)) (C := RX3) (T := TX3) (N := 7) (pc := 47) hx hb hT inT3 hown hK.1 hP 0 rfl rfl 0 (by decide) (hT _ tw_75) (fun _ h9 => h9) rfl dX3_unit_47 ?_
      refine va_get (D := D) (cl := vwCl) (ci := 2) (v := .int (zi ((n + 1)))) (C := RX2) (T := TX2) (N := 4) (pc := 50) hx hb hT inT2 hown hK.1 hP 1 rfl rfl 3 (by decide) (hT _ tw_28) (fun _ h9 => h9) rfl dX3_unit_50 ?_
      refine z_iconst (pc := 53) hx hb dX3_unit_53 ?_
      refine z_isub (pc := 54) hx hb dX3_unit_54 ?_
      refine lv_iload_n (pc := 55) hx hb dX3_unit_55 rfl (lv_at hl 1 rfl) ?_
      refine lv_iload_n (pc := 56) hx hb dX3_unit_56 rfl (lv_at hl 2 rfl) ?_
      refine lv_iload_n (pc := 57) hx hb dX3_unit_57 rfl (lv_at hl 3 rfl) ?_
      refine wv_V (pc := 58) hx hb hml hown hT hK (c_X2_put D cI cJ l ad ((n + 1)) st hr ca pcs fr lv k ts th sp hv pr hc (by omega) (((n + 1) - 1)) (by omega) (a) (by omega) (b) (by omega) (d) (by omega)) ca_X2_put tw_110 hP hD hS (fun q h => inW_same (by rfl) h) 1 2 rfl rfl rfl ⟨Nat.le_of_ble_eq_true rfl, Nat.le_of_ble_eq_true rfl⟩ rfl hl.1 (As := [.int (zi (((n + 1) - 1))), .int (zi (a)), .int (zi (b)), .int (zi (d))]) (rest := []) rfl (Nat.le_of_ble_eq_true rfl) ⟨Nat.le_of_ble_eq_true rfl, Nat.le_of_ble_eq_true rfl⟩ dX3_unit_58 (fun ws_ H locs hΦ hP hz_ hk_ hS => ?_)
      subst hΦ
      replace hP : va_P D vwCl (wX ad cI cJ ((n + 1)) (uZ st (((n + 1) - 1)).toNat (a)) (uZ hr (((n + 1) - 1)).toNat (b)) (uZ ca (((n + 1) - 1)).toNat (d)) pcs fr lv k ts th sp hv pr hc) H := hP
      replace hD : va_D (inW (wX ad cI cJ n st hr ca pcs fr lv k ts th sp hv pr hc)) (wX ad cI cJ ((n + 1)) (uZ st (((n + 1) - 1)).toNat (a)) (uZ hr (((n + 1) - 1)).toNat (b)) (uZ ca (((n + 1) - 1)).toNat (d)) pcs fr lv k ts th sp hv pr hc) := hD.same rfl
      refine lv_aload_n (pc := 61) hx hb dX3_unit_61 rfl (lv_at hl 0 rfl) ?_
      refine va_get (D := D) (cl := vwCl) (ci := 3) (v := .ref (ad 1)) (C := RX3) (T := TX3) (N := 7) (pc := 62) hx hb hT inT3 hown hK.1 hP 0 rfl rfl 0 (by decide) (hT _ tw_75) (fun _ h9 => h9) rfl dX3_unit_62 ?_
      refine va_get (D := D) (cl := vwCl) (ci := 2) (v := .int (zi ((n + 1)))) (C := RX2) (T := TX2) (N := 4) (pc := 65) hx hb hT inT2 hown hK.1 hP 1 rfl rfl 3 (by decide) (hT _ tw_28) (fun _ h9 => h9) rfl dX3_unit_65 ?_
      refine z_iconst (pc := 68) hx hb dX3_unit_68 ?_
      refine z_isub (pc := 69) hx hb dX3_unit_69 ?_
      exact wr_iret hx hb hrt hlk dX3_unit_70 hP hS (⟨(n, n + 1, uZ st n.toNat a, uZ hr n.toNat b, uZ ca n.toNat d), by rw [unitS, if_pos (by assumption), if_pos (by assumption)], by rw [show n + 1 - 1 = n by omega], by rw [show n + 1 - 1 = n by omega]⟩)
    · refine z_sipush (pc := 25) hx hb dX3_unit_25 (by decide) ?_
      exact wr_iret hx hb hrt hlk dX3_unit_28 hP hS (⟨(-1004, n, st, hr, ca), by rw [unitS, if_pos (by assumption), if_neg (by assumption)], rfl, rfl⟩)
  · refine z_sipush (pc := 9) hx hb dX3_unit_9 (by decide) ?_
    exact wr_iret hx hb hrt hlk dX3_unit_12 hP hS (⟨(-1002, n, st, hr, ca), by rw [unitS, if_neg (by assumption)], rfl, rfl⟩)

set_option maxHeartbeats 4000000 in
set_option maxRecDepth 100000 in
theorem c_X3_set (D : va_G) (cI cJ : ClassId) (l : Launch) (ad : Nat → Nat) (n : Int) (st hr ca : Nat → Int) (pcs : Int) (fr lv : Nat → Int) (k : Int) (ts th sp hv : Nat → Int) (pr hc : Int) (hU : VU n st hr ca) (z : Int) (r_z : -2147483648 ≤ z ∧ z ≤ 2147483647) (a : Int) (r_a : -2147483648 ≤ a ∧ a ≤ 2147483647) (b : Int) (r_b : -2147483648 ≤ b ∧ b ≤ 2147483647) (d : Int) (r_d : -2147483648 ≤ d ∧ d ≤ 2147483647) : WR D cI cJ l yX3_set cX3_set 5 (some .int) 3 67 [.ref (ad 0), .int (zi (z)), .int (zi (a)), .int (zi (b)), .int (zi (d))] (wX ad cI cJ n st hr ca pcs fr lv k ts th sp hv pr hc) (fun v' ws' => ∃ x : Int × (Nat → Int) × (Nat → Int) × (Nat → Int), x = setS n st hr ca z a b d ∧ v' = .int (zi x.1) ∧ ws' = (wX ad cI cJ n x.2.1 x.2.2.1 x.2.2.2 pcs fr lv k ts th sp hv pr hc)) := by
  refine WR.of (by decide) (Nat.le_of_ble_eq_true rfl) ?_
  intro p e s m args below meth c hx hb hrt hml hown hT hlk hK hP hD hS ls hl
  replace hl : lv_has ls 5 [(0, .ref (ad 0)), (1, .int (zi (z))), (2, .int (zi (a))), (3, .int (zi (b))), (4, .int (zi (d)))] := hl
  obtain ⟨hn, hst, hhr, hh1, hca⟩ := id hU
  refine lv_aload_n (pc := 0) hx hb dX3_set_0 rfl (lv_at hl 0 rfl) ?_
  refine va_get (D := D) (cl := vwCl) (ci := 3) (v := .ref (ad 1)) (C := RX3) (T := TX3) (N := 7) (pc := 1) hx hb hT inT3 hown hK.1 hP 0 rfl rfl 0 (by decide) (hT _ tw_75) (fun _ h9 => h9) rfl dX3_set_1 ?_
  refine lv_iload_n (pc := 4) hx hb dX3_set_4 rfl (lv_at hl 1 rfl) ?_
  refine rd_V (pc := 5) hx hb hml hown hT hK (c_X2_has D cI cJ l ad n st hr ca pcs fr lv k ts th sp hv pr hc (by omega) (z) (by omega)) ca_X2_has tw_123 hP 1 2 rfl rfl rfl ⟨Nat.le_of_ble_eq_true rfl, Nat.le_of_ble_eq_true rfl⟩ rfl hl.1 (As := [.int (zi (z))]) (rest := []) rfl (Nat.le_of_ble_eq_true rfl) ⟨Nat.le_of_ble_eq_true rfl, Nat.le_of_ble_eq_true rfl⟩ dX3_set_5 ?_
  refine z_ifB_ne (tgt := 15) (pc := 8) hx hb dX3_set_8 (by decide) (fun c_1 => ?_) (fun c_1 => ?_)
  · refine lv_iload_n (pc := 15) hx hb dX3_set_15 rfl (lv_at hl 2 rfl) ?_
    refine lv_iload_n (pc := 16) hx hb dX3_set_16 rfl (lv_at hl 3 rfl) ?_
    refine lv_iload (pc := 17) hx hb dX3_set_17 (lv_at hl 4 rfl) ?_
    refine rd_S (pc := 19) hx hb hml hown hT hK (c_X3_isUnit D cI cJ l (a) (by omega) (b) (by omega) (d) (by omega)) ca_X3_isUnit tw_101 va_Pnil ⟨Nat.le_of_ble_eq_true rfl, Nat.le_of_ble_eq_true rfl⟩ rfl hl.1 (As := [.int (zi (a)), .int (zi (b)), .int (zi (d))]) (rest := []) rfl (Nat.le_of_ble_eq_true rfl) ⟨Nat.le_of_ble_eq_true rfl, Nat.le_of_ble_eq_true rfl⟩ dX3_set_19 ?_
    refine z_ifB_ne (tgt := 29) (pc := 22) hx hb dX3_set_22 (by decide) (fun c_2 => ?_) (fun c_2 => ?_)
    · refine lv_aload_n (pc := 29) hx hb dX3_set_29 rfl (lv_at hl 0 rfl) ?_
      refine va_get (D := D) (cl := vwCl) (ci := 3) (v := .ref (ad 1)) (C := RX3) (T := TX3) (N := 7) (pc := 30) hx hb hT inT3 hown hK.1 hP 0 rfl rfl 0 (by decide) (hT _ tw_75) (fun _ h9 => h9) rfl dX3_set_30 ?_
      refine lv_iload_n (pc := 33) hx hb dX3_set_33 rfl (lv_at hl 1 rfl) ?_
      refine lv_iload_n (pc := 34) hx hb dX3_set_34 rfl (lv_at hl 2 rfl) ?_
      refine lv_iload_n (pc := 35) hx hb dX3_set_35 rfl (lv_at hl 3 rfl) ?_
      refine lv_iload (pc := 36) hx hb dX3_set_36 (lv_at hl 4 rfl) ?_
      refine wv_V (pc := 38) hx hb hml hown hT hK (c_X2_put D cI cJ l ad n st hr ca pcs fr lv k ts th sp hv pr hc (by omega) (z) (by omega) (a) (by omega) (b) (by omega) (d) (by omega)) ca_X2_put tw_110 hP hD hS (fun q h => inW_same (by rfl) h) 1 2 rfl rfl rfl ⟨Nat.le_of_ble_eq_true rfl, Nat.le_of_ble_eq_true rfl⟩ rfl hl.1 (As := [.int (zi (z)), .int (zi (a)), .int (zi (b)), .int (zi (d))]) (rest := []) rfl (Nat.le_of_ble_eq_true rfl) ⟨Nat.le_of_ble_eq_true rfl, Nat.le_of_ble_eq_true rfl⟩ dX3_set_38 (fun ws_ H locs hΦ hP hz_ hk_ hS => ?_)
      subst hΦ
      replace hP : va_P D vwCl (wX ad cI cJ n (uZ st (z).toNat (a)) (uZ hr (z).toNat (b)) (uZ ca (z).toNat (d)) pcs fr lv k ts th sp hv pr hc) H := hP
      replace hD : va_D (inW (wX ad cI cJ n st hr ca pcs fr lv k ts th sp hv pr hc)) (wX ad cI cJ n (uZ st (z).toNat (a)) (uZ hr (z).toNat (b)) (uZ ca (z).toNat (d)) pcs fr lv k ts th sp hv pr hc) := hD.same rfl
      refine z_iconst (pc := 41) hx hb dX3_set_41 ?_
      exact wr_iret hx hb hrt hlk dX3_set_42 hP hS (⟨(1, uZ st z.toNat a, uZ hr z.toNat b, uZ ca z.toNat d), by rw [setS, if_pos (by assumption), if_pos (by assumption)], rfl, rfl⟩)
    · refine z_sipush (pc := 25) hx hb dX3_set_25 (by decide) ?_
      exact wr_iret hx hb hrt hlk dX3_set_28 hP hS (⟨(-1002, st, hr, ca), by rw [setS, if_pos (by assumption), if_neg (by assumption)], rfl, rfl⟩)
  · refine z_sipush (pc := 11) hx hb dX3_set_11 (by decide) ?_
    exact wr_iret hx hb hrt hlk dX3_set_14 hP hS (⟨(-1001, st, hr, ca), by rw [setS, if_neg (by assumption)], rfl, rfl⟩)

set_option maxHeartbeats 4000000 in
set_option maxRecDepth 100000 in
theorem c_X3_drop (D : va_G) (cI cJ : ClassId) (l : Launch) (ad : Nat → Nat) (n : Int) (st hr ca : Nat → Int) (pcs : Int) (fr lv : Nat → Int) (k : Int) (ts th sp hv : Nat → Int) (pr hc : Int) (hU : VU n st hr ca) : WR D cI cJ l yX3_drop cX3_drop 1 (some .int) 0 0 [.ref (ad 0)] (wX ad cI cJ n st hr ca pcs fr lv k ts th sp hv pr hc) (fun v' ws' => ∃ x : Int × Int, x = dropS n ∧ v' = .int (zi x.1) ∧ ws' = (wX ad cI cJ x.2 st hr ca pcs fr lv k ts th sp hv pr hc)) := by
  refine WR.of (by decide) (Nat.le_of_ble_eq_true rfl) ?_
  intro p e s m args below meth c hx hb hrt hml hown hT hlk hK hP hD hS ls hl
  replace hl : lv_has ls 1 [(0, .ref (ad 0))] := hl
  obtain ⟨hn, hst, hhr, hh1, hca⟩ := id hU
  refine lv_aload_n (pc := 0) hx hb dX3_drop_0 rfl (lv_at hl 0 rfl) ?_
  refine va_get (D := D) (cl := vwCl) (ci := 3) (v := .ref (ad 1)) (C := RX3) (T := TX3) (N := 7) (pc := 1) hx hb hT inT3 hown hK.1 hP 0 rfl rfl 0 (by decide) (hT _ tw_75) (fun _ h9 => h9) rfl dX3_drop_1 ?_
  refine va_get (D := D) (cl := vwCl) (ci := 2) (v := .int (zi (n))) (C := RX2) (T := TX2) (N := 4) (pc := 4) hx hb hT inT2 hown hK.1 hP 1 rfl rfl 3 (by decide) (hT _ tw_28) (fun _ h9 => h9) rfl dX3_drop_4 ?_
  refine z_if_ne (tgt := 14) (pc := 7) hx hb dX3_drop_7 (by decide) (by omega) (fun c_1 => ?_) (fun c_1 => ?_)
  · refine lv_aload_n (pc := 14) hx hb dX3_drop_14 rfl (lv_at hl 0 rfl) ?_
    refine va_get (D := D) (cl := vwCl) (ci := 3) (v := .ref (ad 1)) (C := RX3) (T := TX3) (N := 7) (pc := 15) hx hb hT inT3 hown hK.1 hP 0 rfl rfl 0 (by decide) (hT _ tw_75) (fun _ h9 => h9) rfl dX3_drop_15 ?_
    refine lv_dup (pc := 18) hx hb dX3_drop_18 rfl ?_
    refine va_get (D := D) (cl := vwCl) (ci := 2) (v := .int (zi (n))) (C := RX2) (T := TX2) (N := 4) (pc := 19) hx hb hT inT2 hown hK.1 hP 1 rfl rfl 3 (by decide) (hT _ tw_28) (fun _ h9 => h9) rfl dX3_drop_19 ?_
    refine z_iconst (pc := 22) hx hb dX3_drop_22 ?_
    refine z_isub (pc := 23) hx hb dX3_drop_23 ?_
    refine va_put (D := D) (cl := vwCl) (ci := 2) (v := .int (zi ((n - 1)))) (ty := .int) (C := RX2) (T := TX2) (N := 4) (pc := 24) hx hb hT inT2 tyX2 tyX2_ok nmX2 hown hK.1 hP hD hS 1 rfl rfl 3 (by decide) (hT _ tw_28) (fun _ h9 => h9) rfl (by decide +kernel) rfl rfl (Nat.le_of_ble_eq_true rfl) dX3_drop_24 (fun H locs hP hD hS => ?_)
    replace hP : va_P D vwCl (wX ad cI cJ ((n - 1)) st hr ca pcs fr lv k ts th sp hv pr hc) H := hP
    replace hD : va_D (inW (wX ad cI cJ n st hr ca pcs fr lv k ts th sp hv pr hc)) (wX ad cI cJ ((n - 1)) st hr ca pcs fr lv k ts th sp hv pr hc) := hD
    refine lv_aload_n (pc := 27) hx hb dX3_drop_27 rfl (lv_at hl 0 rfl) ?_
    refine va_get (D := D) (cl := vwCl) (ci := 3) (v := .ref (ad 1)) (C := RX3) (T := TX3) (N := 7) (pc := 28) hx hb hT inT3 hown hK.1 hP 0 rfl rfl 0 (by decide) (hT _ tw_75) (fun _ h9 => h9) rfl dX3_drop_28 ?_
    refine va_get (D := D) (cl := vwCl) (ci := 2) (v := .int (zi ((n - 1)))) (C := RX2) (T := TX2) (N := 4) (pc := 31) hx hb hT inT2 hown hK.1 hP 1 rfl rfl 3 (by decide) (hT _ tw_28) (fun _ h9 => h9) rfl dX3_drop_31 ?_
    exact wr_iret hx hb hrt hlk dX3_drop_34 hP hS (⟨(n - 1, n - 1), by rw [dropS, if_neg (by assumption)], rfl, rfl⟩)
  · refine z_sipush (pc := 10) hx hb dX3_drop_10 (by decide) ?_
    exact wr_iret hx hb hrt hlk dX3_drop_13 hP hS (⟨(-1003, n), by rw [dropS, if_pos (by assumption)], rfl, rfl⟩)
