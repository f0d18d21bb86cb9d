def saysV (b s_ a : Int) : Int := if ((1 ≤ b ∧ b ≤ 100000) ∧ (1 ≤ s_ ∧ s_ ≤ 20)) ∧ (0 ≤ a ∧ a ≤ 3) then saysZ b s_ a.toNat else -1002
def cUs (ts th sp : Nat → Int) : Nat → Int
  | 0 => 0
  | u + 1 => cUs ts th sp u + th u * sp (ts u).toNat * 10
theorem cUs_rng {ts th sp : Nat → Int} (hts : ∀ j : Nat, 0 ≤ ts j ∧ ts j ≤ 3) (hth : ∀ j : Nat, 0 ≤ th j ∧ th j ≤ 500) (hsp : ∀ j : Nat, j < 4 → 1 ≤ sp j ∧ sp j ≤ 1000) : ∀ u : Nat, 0 ≤ cUs ts th sp u ∧ cUs ts th sp u ≤ 5000000 * (u : Int)
  | 0 => by simp [cUs]
  | u + 1 => by
    have ih := cUs_rng hts hth hsp u
    have h1 := hts u
    have h2 := hsp (ts u).toNat (by omega)
    have h3 := mul_rng (a := th u) (b := sp (ts u).toNat) (A := 500) (B := 1000) (hth u) (by omega)
    simp only [cUs]; omega
def usedV (k : Int) (ts th sp : Nat → Int) (f : Int) : Int := if 1 ≤ f ∧ f ≤ 100000 then cUs ts th sp k.toNat / f else -1002
/-- the TRIAL's steps from the (K - r)th on: g tenths to go, b HOURS before -/
def failC (K : Nat) (ts th sp : Nat → Int) : Nat → Int → Int → Int
  | 0, _, _ => -1
  | r + 1, g, b => if g ≤ th (K - (r + 1)) * sp (ts (K - (r + 1))).toNat then b + (g + sp (ts (K - (r + 1))).toNat - 1) / sp (ts (K - (r + 1))).toNat else failC K ts th sp r (g - th (K - (r + 1)) * sp (ts (K - (r + 1))).toNat) (b + th (K - (r + 1)))
def failsV (k : Int) (ts th sp : Nat → Int) (f : Int) : Int := if 1 ≤ f ∧ f ≤ 100000 then failC k.toNat ts th sp k.toNat (f * 10) 0 else -1002
def endV (n k t w : Int) : Int := if ((1 ≤ n ∧ n ≤ 12) ∧ (0 ≤ k ∧ k ≤ n)) ∧ (50 ≤ t ∧ t ≤ 99) ∧ (0 ≤ w ∧ w ≤ 1) then (if w = 0 then loF (loT n.toNat k.toNat (100 - t)) 10 else hiF (hiT n.toNat k.toNat (100 - t)) 10) else -1002
/-- a PLAN, and the best -/
abbrev feas (cu ch m a b : Int) : Prop := a * cu + b * ch ≤ m
def isBest (cu ch m a b : Int) : Prop := (0 ≤ a ∧ a ≤ 12) ∧ (0 ≤ b ∧ b ≤ 12) ∧ feas cu ch m a b ∧ ∀ x y : Int, (0 ≤ x ∧ x ≤ 12) → (0 ≤ y ∧ y ≤ 12) → feas cu ch m x y → x + y < a + b ∨ (x + y = a + b ∧ x ≤ a)
abbrev cuZ (pr hc h : Int) : Int := pr + h * hc
abbrev chZ (pr hc h s2 : Int) : Int := pr + (h * 10 + s2 - 1) / s2 * hc
def planV (pr hc m h w s2 a b : Int) : Int := if (0 ≤ m ∧ m ≤ 10000) ∧ (1 ≤ h ∧ h ≤ 500) ∧ (0 ≤ w ∧ w ≤ 2) then (if w = 0 then a else if w = 1 then b else a * cuZ pr hc h + b * chZ pr hc h s2) else -1002
theorem cost_rng {pr hc h s2 : Int} (h1 : 1 ≤ pr ∧ pr ≤ 500) (h2 : 0 ≤ hc ∧ hc ≤ 20) (h3 : 1 ≤ h ∧ h ≤ 500) (h4 : 1 ≤ s2 ∧ s2 ≤ 1000) : (1 ≤ cuZ pr hc h ∧ cuZ pr hc h ≤ 10500) ∧ (1 ≤ chZ pr hc h s2 ∧ chZ pr hc h s2 ≤ 120500) ∧ 0 ≤ (h * 10 + s2 - 1) / s2 ∧ (h * 10 + s2 - 1) / s2 ≤ 6000 := by
  have a1 := mul_rng (a := h) (b := hc) (A := 500) (B := 20) (by omega) h2
  have a2 : 0 ≤ (h * 10 + s2 - 1) / s2 := Int.ediv_nonneg (by omega) (by omega)
  have a3 : (h * 10 + s2 - 1) / s2 ≤ h * 10 + s2 - 1 := Int.ediv_le_self _ (by omega)
  have a4 := mul_rng (a := (h * 10 + s2 - 1) / s2) (b := hc) (A := 6000) (B := 20) (by omega) h2
  simp only [cuZ, chZ]; omega

set_option maxHeartbeats 4000000 in
set_option maxRecDepth 100000 in
theorem c_X3_speed (D : va_G) (cI cJ : ClassId) (l : Launch) (ad : Nat → Nat) (n : Int) (st hr ca : Nat → Int) (pcs : Int) (fr lv : Nat → Int) (k : Int) (ts th sp hv : Nat → Int) (pr hc : Int) (a : Int) (r_a : -2147483648 ≤ a ∧ a ≤ 2147483647) (v : Int) (r_v : -2147483648 ≤ v ∧ v ≤ 2147483647) : WR D cI cJ l yX3_speed cX3_speed 4 (some .int) 2 42 [.ref (ad 0), .int (zi (a)), .int (zi (v))] (wX ad cI cJ n st hr ca pcs fr lv k ts th sp hv pr hc) (fun v' ws' => ∃ x : Int × (Nat → Int), x = speedS sp a v ∧ v' = .int (zi x.1) ∧ ws' = (wX ad cI cJ n st hr ca pcs fr lv k ts th x.2 hv pr hc)) := by
  refine WR.of (by decide) (Nat.le_of_ble_eq_true rfl) ?_
  intro p e s m args below meth c hx hb hrt hml hown hT hlk hK hP hD hS ls hl
  replace hl : lv_has ls 4 [(0, .ref (ad 0)), (1, .int (zi (a))), (2, .int (zi (v)))] := hl
  refine lv_iload_n (pc := 0) hx hb dX3_speed_0 rfl (lv_at hl 1 rfl) ?_
  refine rd_S (pc := 1) hx hb hml hown hT hK (c_X3_isStress D cI cJ l (a) (by omega)) ca_X3_isStress tw_104 va_Pnil ⟨Nat.le_of_ble_eq_true rfl, Nat.le_of_ble_eq_true rfl⟩ rfl hl.1 (As := [.int (zi (a))]) (rest := []) rfl (Nat.le_of_ble_eq_true rfl) ⟨Nat.le_of_ble_eq_true rfl, Nat.le_of_ble_eq_true rfl⟩ dX3_speed_1 ?_
  refine z_ifB_eq (tgt := 18) (pc := 4) hx hb dX3_speed_4 (by decide) (fun c_1 => ?_) (fun c_1 => ?_)
  · refine z_sipush (pc := 18) hx hb dX3_speed_18 (by decide) ?_
    exact wr_iret hx hb hrt hlk dX3_speed_21 hP hS (⟨(-1002, sp), by rw [speedS, if_neg (by omega)], rfl, rfl⟩)
  · refine lv_iload_n (pc := 7) hx hb dX3_speed_7 rfl (lv_at hl 2 rfl) ?_
    refine z_iconst (pc := 8) hx hb dX3_speed_8 ?_
    refine z_sipush (pc := 9) hx hb dX3_speed_9 (by decide) ?_
    refine rd_S (pc := 12) hx hb hml hown hT hK (c_X3_isWithin D cI cJ l (v) (by omega) (1) (by omega) (1000) (by omega)) ca_X3_isWithin tw_107 va_Pnil ⟨Nat.le_of_ble_eq_true rfl, Nat.le_of_ble_eq_true rfl⟩ rfl hl.1 (As := [.int (zi (v)), .int (zi (1)), .int (zi (1000))]) (rest := []) rfl (Nat.le_of_ble_eq_true rfl) ⟨Nat.le_of_ble_eq_true rfl, Nat.le_of_ble_eq_true rfl⟩ dX3_speed_12 ?_
    refine z_ifB_ne (tgt := 22) (pc := 15) hx hb dX3_speed_15 (by decide) (fun c_2 => ?_) (fun c_2 => ?_)
    · refine lv_aload_n (pc := 22) hx hb dX3_speed_22 rfl (lv_at hl 0 rfl) ?_
      refine va_get (D := D) (cl := vwCl) (ci := 3) (v := .ref (ad 4)) (C := RX3) (T := TX3) (N := 7) (pc := 23) hx hb hT inT3 hown hK.1 hP 0 rfl rfl 3 (by decide) (hT _ tw_78) (fun _ h9 => h9) rfl dX3_speed_23 ?_
      refine lv_iload_n (pc := 26) hx hb dX3_speed_26 rfl (lv_at hl 1 rfl) ?_
      refine z_iald (pc := 27) hx hb hK hP 4 (a.toNat) (f := sp) rfl (by omega) (by omega) (by omega) dX3_speed_27 ?_
      refine lv_istore_n (lv' := [(3, .int (zi ((sp (a.toNat))))), (0, .ref (ad 0)), (1, .int (zi (a))), (2, .int (zi (v)))]) (pc := 28) hx hb dX3_speed_28 rfl hl (by decide) rfl (fun ls hl => ?_)
      refine lv_aload_n (pc := 29) hx hb dX3_speed_29 rfl (lv_at hl 1 rfl) ?_
      refine va_get (D := D) (cl := vwCl) (ci := 3) (v := .ref (ad 4)) (C := RX3) (T := TX3) (N := 7) (pc := 30) hx hb hT inT3 hown hK.1 hP 0 rfl rfl 3 (by decide) (hT _ tw_78) (fun _ h9 => h9) rfl dX3_speed_30 ?_
      refine lv_iload_n (pc := 33) hx hb dX3_speed_33 rfl (lv_at hl 2 rfl) ?_
      refine lv_iload_n (pc := 34) hx hb dX3_speed_34 rfl (lv_at hl 3 rfl) ?_
      refine z_iast (pc := 35) hx hb hK hP hD hS 4 (a.toNat) (f := sp) (x := v) rfl (by omega) (by omega) (by omega) dX3_speed_35 (fun H locs hP hD hS => ?_)
      replace hP : va_P D vwCl (wX ad cI cJ n st hr ca pcs fr lv k ts th (uZ sp (a.toNat) (v)) hv pr hc) H := hP
      replace hD : va_D (inW (wX ad cI cJ n st hr ca pcs fr lv k ts th sp hv pr hc)) (wX ad cI cJ n st hr ca pcs fr lv k ts th (uZ sp (a.toNat) (v)) hv pr hc) := hD
      refine lv_iload_n (pc := 36) hx hb dX3_speed_36 rfl (lv_at hl 0 rfl) ?_
      exact wr_iret hx hb hrt hlk dX3_speed_37 hP hS (⟨(sp a.toNat, uZ sp a.toNat v), by rw [speedS, if_pos (by omega)], rfl, rfl⟩)
    · refine z_sipush (pc := 18) hx hb dX3_speed_18 (by decide) ?_
      exact wr_iret hx hb hrt hlk dX3_speed_21 hP hS (⟨(-1002, sp), by rw [speedS, if_neg (by omega)], rfl, rfl⟩)

set_option maxHeartbeats 4000000 in
set_option maxRecDepth 100000 in
theorem c_X3_says (D : va_G) (cI cJ : ClassId) (l : Launch) (ad : Nat → Nat) (n : Int) (st hr ca : Nat → Int) (pcs : Int) (fr lv : Nat → Int) (k : Int) (ts th sp hv : Nat → Int) (pr hc : Int) (b : Int) (r_b : -2147483648 ≤ b ∧ b ≤ 2147483647) (s_ : Int) (r_s_ : -2147483648 ≤ s_ ∧ s_ ≤ 2147483647) (a : Int) (r_a : -2147483648 ≤ a ∧ a ≤ 2147483647) : RD D cI cJ l yX3_says cX3_says 4 (some .int) 2 45 [.ref (ad 0), .int (zi (b)), .int (zi (s_)), .int (zi (a))] (wX ad cI cJ n st hr ca pcs fr lv k ts th sp hv pr hc) (.int (zi (saysV b s_ a))) := by
  refine RD.of (by decide) (Nat.le_of_ble_eq_true rfl) ?_
  intro p e s m args below meth c hx hb hrt hml hown hT hlk hK hP ls hl
  replace hl : lv_has ls 4 [(0, .ref (ad 0)), (1, .int (zi (b))), (2, .int (zi (s_))), (3, .int (zi (a)))] := hl
  refine lv_iload_n (pc := 0) hx hb dX3_says_0 rfl (lv_at hl 1 rfl) ?_
  refine lv_iload_n (pc := 1) hx hb dX3_says_1 rfl (lv_at hl 2 rfl) ?_
  refine rd_S (pc := 2) hx hb hml hown hT hK (c_X3_isLaw D cI cJ l (b) (by omega) (s_) (by omega)) ca_X3_isLaw tw_250 va_Pnil ⟨Nat.le_of_ble_eq_true rfl, Nat.le_of_ble_eq_true rfl⟩ rfl hl.1 (As := [.int (zi (b)), .int (zi (s_))]) (rest := []) rfl (Nat.le_of_ble_eq_true rfl) ⟨Nat.le_of_ble_eq_true rfl, Nat.le_of_ble_eq_true rfl⟩ dX3_says_2 ?_
  refine z_ifB_eq (tgt := 15) (pc := 5) hx hb dX3_says_5 (by decide) (fun c_1 => ?_) (fun c_1 => ?_)
  · refine z_sipush (pc := 15) hx hb dX3_says_15 (by decide) ?_
    exact rd_iret hx hb hrt hlk dX3_says_18 (by rw [saysV, if_neg (by omega)])
  · refine lv_iload_n (pc := 8) hx hb dX3_says_8 rfl (lv_at hl 3 rfl) ?_
    refine rd_S (pc := 9) hx hb hml hown hT hK (c_X3_isStress D cI cJ l (a) (by omega)) ca_X3_isStress tw_104 va_Pnil ⟨Nat.le_of_ble_eq_true rfl, Nat.le_of_ble_eq_true rfl⟩ rfl hl.1 (As := [.int (zi (a))]) (rest := []) rfl (Nat.le_of_ble_eq_true rfl) ⟨Nat.le_of_ble_eq_true rfl, Nat.le_of_ble_eq_true rfl⟩ dX3_says_9 ?_
    refine z_ifB_ne (tgt := 19) (pc := 12) hx hb dX3_says_12 (by decide) (fun c_2 => ?_) (fun c_2 => ?_)
    · refine lv_iload_n (pc := 19) hx hb dX3_says_19 rfl (lv_at hl 1 rfl) ?_
      refine lv_iload_n (pc := 20) hx hb dX3_says_20 rfl (lv_at hl 2 rfl) ?_
      refine lv_iload_n (pc := 21) hx hb dX3_says_21 rfl (lv_at hl 3 rfl) ?_
      refine rd_S (pc := 22) hx hb hml hown hT hK (c_X3_lawAt D cI cJ l (b) (s_) (a) ((a).toNat) (by omega) (by omega)) ca_X3_lawAt tw_254 va_Pnil ⟨Nat.le_of_ble_eq_true rfl, Nat.le_of_ble_eq_true rfl⟩ rfl hl.1 (As := [.int (zi (b)), .int (zi (s_)), .int (zi (a))]) (rest := []) rfl (Nat.le_of_ble_eq_true rfl) ⟨Nat.le_of_ble_eq_true rfl, Nat.le_of_ble_eq_true rfl⟩ dX3_says_22 ?_
      exact rd_iret hx hb hrt hlk dX3_says_25 (by rw [saysV, if_pos (by omega)])
    · refine z_sipush (pc := 15) hx hb dX3_says_15 (by decide) ?_
      exact rd_iret hx hb hrt hlk dX3_says_18 (by rw [saysV, if_neg (by omega)])

set_option maxHeartbeats 4000000 in
set_option maxRecDepth 100000 in
theorem c_X3_step (D : va_G) (cI cJ : ClassId) (l : Launch) (ad : Nat → Nat) (n : Int) (st hr ca : Nat → Int) (pcs : Int) (fr lv : Nat → Int) (k : Int) (ts th sp hv : Nat → Int) (pr hc : Int) (hV : VT k ts th sp pr hc) (a : Int) (r_a : -2147483648 ≤ a ∧ a ≤ 2147483647) (b : Int) (r_b : -2147483648 ≤ b ∧ b ≤ 2147483647) : WR D cI cJ l yX3_step cX3_step 3 (some .int) 2 42 [.ref (ad 0), .int (zi (a)), .int (zi (b))] (wX ad cI cJ n st hr ca pcs fr lv k ts th sp hv pr hc) (fun v' ws' => ∃ x : Int × Int × (Nat → Int) × (Nat → Int), x = stepS k ts th a b ∧ v' = .int (zi x.1) ∧ ws' = (wX ad cI cJ n st hr ca pcs fr lv x.2.1 x.2.2.1 x.2.2.2 sp hv pr hc)) := by
  refine WR.of (by decide) (Nat.le_of_ble_eq_true rfl) ?_
  intro p e s m args below meth c hx hb hrt hml hown hT hlk hK hP hD hS ls hl
  replace hl : lv_has ls 3 [(0, .ref (ad 0)), (1, .int (zi (a))), (2, .int (zi (b)))] := hl
  obtain ⟨hk, hts, hth, ht1, hsp, hpr, hhc⟩ := id hV
  refine lv_iload_n (pc := 0) hx hb dX3_step_0 rfl (lv_at hl 1 rfl) ?_
  refine rd_S (pc := 1) hx hb hml hown hT hK (c_X3_isStress D cI cJ l (a) (by omega)) ca_X3_isStress tw_104 va_Pnil ⟨Nat.le_of_ble_eq_true rfl, Nat.le_of_ble_eq_true rfl⟩ rfl hl.1 (As := [.int (zi (a))]) (rest := []) rfl (Nat.le_of_ble_eq_true rfl) ⟨Nat.le_of_ble_eq_true rfl, Nat.le_of_ble_eq_true rfl⟩ dX3_step_1 ?_
  refine z_ifB_eq (tgt := 18) (pc := 4) hx hb dX3_step_4 (by decide) (fun c_1 => ?_) (fun c_1 => ?_)
  · refine z_sipush (pc := 18) hx hb dX3_step_18 (by decide) ?_
    exact wr_iret hx hb hrt hlk dX3_step_21 hP hS (⟨(-1002, k, ts, th), by rw [stepS, if_neg (by omega)], rfl, rfl⟩)
  · refine lv_iload_n (pc := 7) hx hb dX3_step_7 rfl (lv_at hl 2 rfl) ?_
    refine z_iconst (pc := 8) hx hb dX3_step_8 ?_
    refine z_sipush (pc := 9) hx hb dX3_step_9 (by decide) ?_
    refine rd_S (pc := 12) hx hb hml hown hT hK (c_X3_isWithin D cI cJ l (b) (by omega) (1) (by omega) (500) (by omega)) ca_X3_isWithin tw_107 va_Pnil ⟨Nat.le_of_ble_eq_true rfl, Nat.le_of_ble_eq_true rfl⟩ rfl hl.1 (As := [.int (zi (b)), .int (zi (1)), .int (zi (500))]) (rest := []) rfl (Nat.le_of_ble_eq_true rfl) ⟨Nat.le_of_ble_eq_true rfl, Nat.le_of_ble_eq_true rfl⟩ dX3_step_12 ?_
    refine z_ifB_ne (tgt := 22) (pc := 15) hx hb dX3_step_15 (by decide) (fun c_2 => ?_) (fun c_2 => ?_)
    · refine lv_aload_n (pc := 22) hx hb dX3_step_22 rfl (lv_at hl 0 rfl) ?_
      refine va_get (D := D) (cl := vwCl) (ci := 3) (v := .ref (ad 3)) (C := RX3) (T := TX3) (N := 7) (pc := 23) hx hb hT inT3 hown hK.1 hP 0 rfl rfl 2 (by decide) (hT _ tw_77) (fun _ h9 => h9) rfl dX3_step_23 ?_
      refine va_get (D := D) (cl := vwCl) (ci := 1) (v := .int (zi (k))) (C := RX1) (T := TX1) (N := 3) (pc := 26) hx hb hT inT1 hown hK.1 hP 3 rfl rfl 2 (by decide) (hT _ tw_67) (fun _ h9 => h9) rfl dX3_step_26 ?_
      refine z_bipush (pc := 29) hx hb dX3_step_29 (by decide) ?_
      refine z_icmp_lt (tgt := 38) (pc := 31) hx hb dX3_step_31 (by decide) (by omega) (by omega) (fun c_3 => ?_) (fun c_3 => ?_)
      · refine lv_aload_n (pc := 38) hx hb dX3_step_38 rfl (lv_at hl 0 rfl) ?_
        refine va_get (D := D) (cl := vwCl) (ci := 3) (v := .ref (ad 3)) (C := RX3) (T := TX3) (N := 7) (pc := 39) hx hb hT inT3 hown hK.1 hP 0 rfl rfl 2 (by decide) (hT _ tw_77) (fun _ h9 => h9) rfl dX3_step_39 ?_
        refine va_get (D := D) (cl := vwCl) (ci := 1) (v := .ref (ad 11)) (C := RX1) (T := TX1) (N := 3) (pc := 42) hx hb hT inT1 hown hK.1 hP 3 rfl rfl 0 (by decide) (hT _ tw_63) (fun _ h9 => h9) rfl dX3_step_42 ?_
        refine lv_aload_n (pc := 45) hx hb dX3_step_45 rfl (lv_at hl 0 rfl) ?_
        refine va_get (D := D) (cl := vwCl) (ci := 3) (v := .ref (ad 3)) (C := RX3) (T := TX3) (N := 7) (pc := 46) hx hb hT inT3 hown hK.1 hP 0 rfl rfl 2 (by decide) (hT _ tw_77) (fun _ h9 => h9) rfl dX3_step_46 ?_
        refine va_get (D := D) (cl := vwCl) (ci := 1) (v := .int (zi (k))) (C := RX1) (T := TX1) (N := 3) (pc := 49) hx hb hT inT1 hown hK.1 hP 3 rfl rfl 2 (by decide) (hT _ tw_67) (fun _ h9 => h9) rfl dX3_step_49 ?_
        refine lv_iload_n (pc := 52) hx hb dX3_step_52 rfl (lv_at hl 1 rfl) ?_
        refine z_iast (pc := 53) hx hb hK hP hD hS 11 (k.toNat) (f := ts) (x := a) rfl (by omega) (by omega) (by omega) dX3_step_53 (fun H locs hP hD hS => ?_)
        replace hP : va_P D vwCl (wX ad cI cJ n st hr ca pcs fr lv k (uZ ts (k.toNat) (a)) th sp hv pr hc) H := hP
        replace hD : va_D (inW (wX ad cI cJ n st hr ca pcs fr lv k ts th sp hv pr hc)) (wX ad cI cJ n st hr ca pcs fr lv k (uZ ts (k.toNat) (a)) th sp hv pr hc) := hD
        refine lv_aload_n (pc := 54) hx hb dX3_step_54 rfl (lv_at hl 0 rfl) ?_
        refine va_get (D := D) (cl := vwCl) (ci := 3) (v := .ref (ad 3)) (C := RX3) (T := TX3) (N := 7) (pc := 55) hx hb hT inT3 hown hK.1 hP 0 rfl rfl 2 (by decide) (hT _ tw_77) (fun _ h9 => h9) rfl dX3_step_55 ?_
        refine va_get (D := D) (cl := vwCl) (ci := 1) (v := .ref (ad 12)) (C := RX1) (T := TX1) (N := 3) (pc := 58) hx hb hT inT1 hown hK.1 hP 3 rfl rfl 1 (by decide) (hT _ tw_65) (fun _ h9 => h9) rfl dX3_step_58 ?_
        refine lv_aload_n (pc := 61) hx hb dX3_step_61 rfl (lv_at hl 0 rfl) ?_
        refine va_get (D := D) (cl := vwCl) (ci := 3) (v := .ref (ad 3)) (C := RX3) (T := TX3) (N := 7) (pc := 62) hx hb hT inT3 hown hK.1 hP 0 rfl rfl 2 (by decide) (hT _ tw_77) (fun _ h9 => h9) rfl dX3_step_62 ?_
        refine va_get (D := D) (cl := vwCl) (ci := 1) (v := .int (zi (k))) (C := RX1) (T := TX1) (N := 3) (pc := 65) hx hb hT inT1 hown hK.1 hP 3 rfl rfl 2 (by decide) (hT _ tw_67) (fun _ h9 => h9) rfl dX3_step_65 ?_
        refine lv_iload_n (pc := 68) hx hb dX3_step_68 rfl (lv_at hl 2 rfl) ?_
        refine z_iast (pc := 69) hx hb hK hP hD hS 12 (k.toNat) (f := th) (x := b) rfl (by omega) (by omega) (by omega) dX3_step_69 (fun H locs hP hD hS => ?_)
        replace hP : va_P D vwCl (wX ad cI cJ n st hr ca pcs fr lv k (uZ ts (k.toNat) (a)) (uZ th (k.toNat) (b)) sp hv pr hc) H := hP
        replace hD : va_D (inW (wX ad cI cJ n st hr ca pcs fr lv k ts th sp hv pr hc)) (wX ad cI cJ n st hr ca pcs fr lv k (uZ ts (k.toNat) (a)) (uZ th (k.toNat) (b)) sp hv pr hc) := hD
        refine lv_aload_n (pc := 70) hx hb dX3_step_70 rfl (lv_at hl 0 rfl) ?_
        refine va_get (D := D) (cl := vwCl) (ci := 3) (v := .ref (ad 3)) (C := RX3) (T := TX3) (N := 7) (pc := 71) hx hb hT inT3 hown hK.1 hP 0 rfl rfl 2 (by decide) (hT _ tw_77) (fun _ h9 => h9) rfl dX3_step_71 ?_
        refine lv_dup (pc := 74) hx hb dX3_step_74 rfl ?_
        refine va_get (D := D) (cl := vwCl) (ci := 1) (v := .int (zi (k))) (C := RX1) (T := TX1) (N := 3) (pc := 75) hx hb hT inT1 hown hK.1 hP 3 rfl rfl 2 (by decide) (hT _ tw_67) (fun _ h9 => h9) rfl dX3_step_75 ?_
        refine z_iconst (pc := 78) hx hb dX3_step_78 ?_
        refine z_iadd (pc := 79) hx hb dX3_step_79 ?_
        refine va_put (D := D) (cl := vwCl) (ci := 1) (v := .int (zi ((k + 1)))) (ty := .int) (C := RX1) (T := TX1) (N := 3) (pc := 80) hx hb hT inT1 tyX1 tyX1_ok nmX1 hown hK.1 hP hD hS 3 rfl rfl 2 (by decide) (hT _ tw_67) (fun _ h9 => h9) rfl (by decide +kernel) rfl rfl (Nat.le_of_ble_eq_true rfl) dX3_step_80 (fun H locs hP hD hS => ?_)
        replace hP : va_P D vwCl (wX ad cI cJ n st hr ca pcs fr lv ((k + 1)) (uZ ts (k.toNat) (a)) (uZ th (k.toNat) (b)) sp hv pr hc) H := hP
        replace hD : va_D (inW (wX ad cI cJ n st hr ca pcs fr lv k ts th sp hv pr hc)) (wX ad cI cJ n st hr ca pcs fr lv ((k + 1)) (uZ ts (k.toNat) (a)) (uZ th (k.toNat) (b)) sp hv pr hc) := hD
        refine lv_aload_n (pc := 83) hx hb dX3_step_83 rfl (lv_at hl 0 rfl) ?_
        refine va_get (D := D) (cl := vwCl) (ci := 3) (v := .ref (ad 3)) (C := RX3) (T := TX3) (N := 7) (pc := 84) hx hb hT inT3 hown hK.1 hP 0 rfl rfl 2 (by decide) (hT _ tw_77) (fun _ h9 => h9) rfl dX3_step_84 ?_
        refine va_get (D := D) (cl := vwCl) (ci := 1) (v := .int (zi ((k + 1)))) (C := RX1) (T := TX1) (N := 3) (pc := 87) hx hb hT inT1 hown hK.1 hP 3 rfl rfl 2 (by decide) (hT _ tw_67) (fun _ h9 => h9) rfl dX3_step_87 ?_
        exact wr_iret hx hb hrt hlk dX3_step_90 hP hS (⟨(k + 1, k + 1, uZ ts k.toNat a, uZ th k.toNat b), by rw [stepS, if_pos (by omega), if_pos (by omega)], rfl, rfl⟩)
      · refine z_sipush (pc := 34) hx hb dX3_step_34 (by decide) ?_
        exact wr_iret hx hb hrt hlk dX3_step_37 hP hS (⟨(-1004, k, ts, th), by rw [stepS, if_pos (by omega), if_neg (by omega)], rfl, rfl⟩)
    · refine z_sipush (pc := 18) hx hb dX3_step_18 (by decide) ?_
      exact wr_iret hx hb hrt hlk dX3_step_21 hP hS (⟨(-1002, k, ts, th), by rw [stepS, if_neg (by omega)], rfl, rfl⟩)

set_option maxHeartbeats 4000000 in
set_option maxRecDepth 100000 in
theorem c_X3_clear (D : va_G) (cI cJ : ClassId) (l : Launch) (ad : Nat → Nat) (n : Int) (st hr ca : Nat → Int) (pcs : Int) (fr lv : Nat → Int) (k : Int) (ts th sp hv : Nat → Int) (pr hc : Int)  : WR D cI cJ l yX3_clear cX3_clear 2 (some .int) 0 0 [.ref (ad 0)] (wX ad cI cJ n st hr ca pcs fr lv k ts th sp hv pr hc) (fun v' ws' => v' = .int (zi k) ∧ ws' = (wX ad cI cJ n st hr ca pcs fr lv 0 ts th sp hv pr hc)) := by
  refine WR.of (by decide) (Nat.le_of_ble_eq_true rfl) ?_
  intro p e s m args below meth c hx hb hrt hml hown hT hlk hK hP hD hS ls hl
  replace hl : lv_has ls 2 [(0, .ref (ad 0))] := hl
  refine lv_aload_n (pc := 0) hx hb dX3_clear_0 rfl (lv_at hl 0 rfl) ?_
  refine va_get (D := D) (cl := vwCl) (ci := 3) (v := .ref (ad 3)) (C := RX3) (T := TX3) (N := 7) (pc := 1) hx hb hT inT3 hown hK.1 hP 0 rfl rfl 2 (by decide) (hT _ tw_77) (fun _ h9 => h9) rfl dX3_clear_1 ?_
  refine va_get (D := D) (cl := vwCl) (ci := 1) (v := .int (zi (k))) (C := RX1) (T := TX1) (N := 3) (pc := 4) hx hb hT inT1 hown hK.1 hP 3 rfl rfl 2 (by decide) (hT _ tw_67) (fun _ h9 => h9) rfl dX3_clear_4 ?_
  refine lv_istore_n (lv' := [(1, .int (zi (k))), (0, .ref (ad 0))]) (pc := 7) hx hb dX3_clear_7 rfl hl (by decide) rfl (fun ls hl => ?_)
  refine lv_aload_n (pc := 8) hx hb dX3_clear_8 rfl (lv_at hl 1 rfl) ?_
  refine va_get (D := D) (cl := vwCl) (ci := 3) (v := .ref (ad 3)) (C := RX3) (T := TX3) (N := 7) (pc := 9) hx hb hT inT3 hown hK.1 hP 0 rfl rfl 2 (by decide) (hT _ tw_77) (fun _ h9 => h9) rfl dX3_clear_9 ?_
  refine z_iconst (pc := 12) hx hb dX3_clear_12 ?_
  refine va_put (D := D) (cl := vwCl) (ci := 1) (v := .int (zi (0))) (ty := .int) (C := RX1) (T := TX1) (N := 3) (pc := 13) hx hb hT inT1 tyX1 tyX1_ok nmX1 hown hK.1 hP hD hS 3 rfl rfl 2 (by decide) (hT _ tw_67) (fun _ h9 => h9) rfl (by decide +kernel) rfl rfl (Nat.le_of_ble_eq_true rfl) dX3_clear_13 (fun H locs hP hD hS => ?_)
  replace hP : va_P D vwCl (wX ad cI cJ n st hr ca pcs fr lv 0 ts th sp hv pr hc) H := hP
  replace hD : va_D (inW (wX ad cI cJ n st hr ca pcs fr lv k ts th sp hv pr hc)) (wX ad cI cJ n st hr ca pcs fr lv 0 ts th sp hv pr hc) := hD
  refine lv_iload_n (pc := 16) hx hb dX3_clear_16 rfl (lv_at hl 0 rfl) ?_
  exact wr_iret hx hb hrt hlk dX3_clear_17 hP hS (⟨rfl, rfl⟩)

set_option maxHeartbeats 4000000 in
set_option maxRecDepth 100000 in
theorem c_X3_used (D : va_G) (cI cJ : ClassId) (l : Launch) (ad : Nat → Nat) (n : Int) (st hr ca : Nat → Int) (pcs : Int) (fr lv : Nat → Int) (k : Int) (ts th sp hv : Nat → Int) (pr hc : Int) (hV : VT k ts th sp pr hc) (f : Int) (r_f : -2147483648 ≤ f ∧ f ≤ 2147483647) : RD D cI cJ l yX3_used cX3_used 4 (some .int) 1 22 [.ref (ad 0), .int (zi (f))] (wX ad cI cJ n st hr ca pcs fr lv k ts th sp hv pr hc) (.int (zi (usedV k ts th sp f))) := by
  refine RD.of (by decide) (Nat.le_of_ble_eq_true rfl) ?_
  intro p e s m args below meth c hx hb hrt hml hown hT hlk hK hP ls hl
  replace hl : lv_has ls 4 [(0, .ref (ad 0)), (1, .int (zi (f)))] := hl
  obtain ⟨hk, hts, hth, ht1, hsp, hpr, hhc⟩ := id hV
  have loop : ∀ u : Nat, u ≤ k.toNat → ∀ (z1 z2 : Int), (z1 = cUs ts th sp u) → (z2 = (u : Int)) → (1 ≤ f ∧ f ≤ 100000) → ∀ ls : Array Slot, lv_has ls 4 [(0, .ref (ad 0)), (1, .int (zi (f))), (2, .int (zi (z1))), (3, .int (zi (z2)))] → W p l e (RM 1 22) s m args below meth c s.heap [] 0 0 (MQ below (QR (.int (zi (usedV k ts th sp f))) s.heap) args s 0 0 (fun _ => False)) (F0 m 18 ls []) := by
    refine lp_up (fun u => ∀ (z1 z2 : Int), (z1 = cUs ts th sp u) → (z2 = (u : Int)) → (1 ≤ f ∧ f ≤ 100000) → ∀ ls : Array Slot, lv_has ls 4 [(0, .ref (ad 0)), (1, .int (zi (f))), (2, .int (zi (z1))), (3, .int (zi (z2)))] → W p l e (RM 1 22) s m args below meth c s.heap [] 0 0 (MQ below (QR (.int (zi (usedV k ts th sp f))) s.heap) args s 0 0 (fun _ => False)) (F0 m 18 ls [])) (k.toNat) ?_ ?_
    · intro z1 z2 e1 e2 e3 ls hl
      have hcu := cUs_rng hts hth hsp k.toNat
      refine lv_iload_n (pc := 18) hx hb dX3_used_18 rfl (lv_at hl 3 rfl) ?_
      refine lv_aload_n (pc := 19) hx hb dX3_used_19 rfl (lv_at hl 0 rfl) ?_
      refine va_get (D := D) (cl := vwCl) (ci := 3) (v := .ref (ad 3)) (C := RX3) (T := TX3) (N := 7) (pc := 20) hx hb hT inT3 hown hK.1 hP 0 rfl rfl 2 (by decide) (hT _ tw_77) (fun _ h9 => h9) rfl dX3_used_20 ?_
      refine va_get (D := D) (cl := vwCl) (ci := 1) (v := .int (zi (k))) (C := RX1) (T := TX1) (N := 3) (pc := 23) hx hb hT inT1 hown hK.1 hP 3 rfl rfl 2 (by decide) (hT _ tw_67) (fun _ h9 => h9) rfl dX3_used_23 ?_
      refine z_icmp_ge (tgt := 65) (pc := 26) hx hb dX3_used_26 (by decide) (by omega) (by omega) (fun c_1 => ?_) (fun c_1 => absurd c_1 (by omega))
      refine lv_iload_n (pc := 65) hx hb dX3_used_65 rfl (lv_at hl 2 rfl) ?_
      refine lv_iload_n (pc := 66) hx hb dX3_used_66 rfl (lv_at hl 1 rfl) ?_
      refine rd_S (pc := 67) hx hb hml hown hT hK (c_X3_cut D cI cJ l (z1) (f) (by omega)) ca_X3_cut tw_257 va_Pnil ⟨Nat.le_of_ble_eq_true rfl, Nat.le_of_ble_eq_true rfl⟩ rfl hl.1 (As := [.int (zi (z1)), .int (zi (f))]) (rest := []) rfl (Nat.le_of_ble_eq_true rfl) ⟨Nat.le_of_ble_eq_true rfl, Nat.le_of_ble_eq_true rfl⟩ dX3_used_67 ?_
      exact rd_iret hx hb hrt hlk dX3_used_70 (by rw [usedV, if_pos e3, e1])
    · intro u hu ih z1 z2 e1 e2 e3 ls hl
      refine lv_iload_n (pc := 18) hx hb dX3_used_18 rfl (lv_at hl 3 rfl) ?_
      refine lv_aload_n (pc := 19) hx hb dX3_used_19 rfl (lv_at hl 0 rfl) ?_
      refine va_get (D := D) (cl := vwCl) (ci := 3) (v := .ref (ad 3)) (C := RX3) (T := TX3) (N := 7) (pc := 20) hx hb hT inT3 hown hK.1 hP 0 rfl rfl 2 (by decide) (hT _ tw_77) (fun _ h9 => h9) rfl dX3_used_20 ?_
      refine va_get (D := D) (cl := vwCl) (ci := 1) (v := .int (zi (k))) (C := RX1) (T := TX1) (N := 3) (pc := 23) hx hb hT inT1 hown hK.1 hP 3 rfl rfl 2 (by decide) (hT _ tw_67) (fun _ h9 => h9) rfl dX3_used_23 ?_
      refine z_icmp_ge (tgt := 65) (pc := 26) hx hb dX3_used_26 (by decide) (by omega) (by omega) (fun c_2 => absurd c_2 (by omega)) (fun c_2 => ?_)
      refine lv_iload_n (pc := 29) hx hb dX3_used_29 rfl (lv_at hl 2 rfl) ?_
      refine lv_aload_n (pc := 30) hx hb dX3_used_30 rfl (lv_at hl 0 rfl) ?_
      refine va_get (D := D) (cl := vwCl) (ci := 3) (v := .ref (ad 3)) (C := RX3) (T := TX3) (N := 7) (pc := 31) hx hb hT inT3 hown hK.1 hP 0 rfl rfl 2 (by decide) (hT _ tw_77) (fun _ h9 => h9) rfl dX3_used_31 ?_
      refine va_get (D := D) (cl := vwCl) (ci := 1) (v := .ref (ad 12)) (C := RX1) (T := TX1) (N := 3) (pc := 34) hx hb hT inT1 hown hK.1 hP 3 rfl rfl 1 (by decide) (hT _ tw_65) (fun _ h9 => h9) rfl dX3_used_34 ?_
      refine lv_iload_n (pc := 37) hx hb dX3_used_37 rfl (lv_at hl 3 rfl) ?_
      refine z_iald (pc := 38) hx hb hK hP 12 (u) (f := th) rfl (by omega) (by omega) (by omega) dX3_used_38 ?_
      have r_3 := hth (u)
      refine lv_aload_n (pc := 39) hx hb dX3_used_39 rfl (lv_at hl 0 rfl) ?_
      refine va_get (D := D) (cl := vwCl) (ci := 3) (v := .ref (ad 4)) (C := RX3) (T := TX3) (N := 7) (pc := 40) hx hb hT inT3 hown hK.1 hP 0 rfl rfl 3 (by decide) (hT _ tw_78) (fun _ h9 => h9) rfl dX3_used_40 ?_
      refine lv_aload_n (pc := 43) hx hb dX3_used_43 rfl (lv_at hl 0 rfl) ?_
      refine va_get (D := D) (cl := vwCl) (ci := 3) (v := .ref (ad 3)) (C := RX3) (T := TX3) (N := 7) (pc := 44) hx hb hT inT3 hown hK.1 hP 0 rfl rfl 2 (by decide) (hT _ tw_77) (fun _ h9 => h9) rfl dX3_used_44 ?_
      refine va_get (D := D) (cl := vwCl) (ci := 1) (v := .ref (ad 11)) (C := RX1) (T := TX1) (N := 3) (pc := 47) hx hb hT inT1 hown hK.1 hP 3 rfl rfl 0 (by decide) (hT _ tw_63) (fun _ h9 => h9) rfl dX3_used_47 ?_
      refine lv_iload_n (pc := 50) hx hb dX3_used_50 rfl (lv_at hl 3 rfl) ?_
      refine z_iald (pc := 51) hx hb hK hP 11 (u) (f := ts) rfl (by omega) (by omega) (by omega) dX3_used_51 ?_
      have r_4 := hts (u)
      refine z_iald (pc := 52) hx hb hK hP 4 (((ts (u))).toNat) (f := sp) rfl (by omega) (by omega) (by omega) dX3_used_52 ?_
      have r_5 := hsp (((ts (u))).toNat) (by omega)
      refine z_imul (pc := 53) hx hb dX3_used_53 ?_
      refine z_bipush (pc := 54) hx hb dX3_used_54 (by decide) ?_
      refine z_imul (pc := 56) hx hb dX3_used_56 ?_
      refine z_iadd (pc := 57) hx hb dX3_used_57 ?_
      refine lv_istore_n (lv' := [(2, .int (zi ((z1 + (((th (u)) * (sp (((ts (u))).toNat))) * 10))))), (0, .ref (ad 0)), (1, .int (zi (f))), (3, .int (zi (z2)))]) (pc := 58) hx hb dX3_used_58 rfl hl (by decide) rfl (fun ls hl => ?_)
      refine lv_iinc (v := zi (z2 + 1)) (lv' := [(3, .int (zi ((z2 + 1)))), (2, .int (zi ((z1 + (((th (u)) * (sp (((ts (u))).toNat))) * 10))))), (0, .ref (ad 0)), (1, .int (zi (f)))]) (pc := 59) hx hb dX3_used_59 hl (k := 3) rfl (zi_add _ _) (by decide) rfl (fun ls hl => ?_)
      refine lv_goto (tgt := 18) (pc := 62) hx hb dX3_used_62 (by decide) ?_
      exact ih  _ _ (by rw [e1]; rfl) (by rw [e2]; rfl) (e3) ls (lv_sub hl [2, 3, 1, 0] rfl)
  refine lv_iload_n (pc := 0) hx hb dX3_used_0 rfl (lv_at hl 1 rfl) ?_
  refine z_iconst (pc := 1) hx hb dX3_used_1 ?_
  refine z_ldc (pc := 2) hx hb (100000) hown (hT _ tw_253) (by decide) dX3_used_2 ?_
  refine rd_S (pc := 4) hx hb hml hown hT hK (c_X3_isWithin D cI cJ l (f) (by omega) (1) (by omega) (100000) (by omega)) ca_X3_isWithin tw_107 va_Pnil ⟨Nat.le_of_ble_eq_true rfl, Nat.le_of_ble_eq_true rfl⟩ rfl hl.1 (As := [.int (zi (f)), .int (zi (1)), .int (zi (100000))]) (rest := []) rfl (Nat.le_of_ble_eq_true rfl) ⟨Nat.le_of_ble_eq_true rfl, Nat.le_of_ble_eq_true rfl⟩ dX3_used_4 ?_
  refine z_ifB_ne (tgt := 14) (pc := 7) hx hb dX3_used_7 (by decide) (fun c_6 => ?_) (fun c_6 => ?_)
  · refine z_iconst (pc := 14) hx hb dX3_used_14 ?_
    refine lv_istore_n (lv' := [(2, .int (zi (0))), (0, .ref (ad 0)), (1, .int (zi (f)))]) (pc := 15) hx hb dX3_used_15 rfl hl (by decide) rfl (fun ls hl => ?_)
    refine z_iconst (pc := 16) hx hb dX3_used_16 ?_
    refine lv_istore_n (lv' := [(3, .int (zi (0))), (2, .int (zi (0))), (0, .ref (ad 0)), (1, .int (zi (f)))]) (pc := 17) hx hb dX3_used_17 rfl hl (by decide) rfl (fun ls hl => ?_)
    exact loop 0 (by omega) _ _ (by rfl) (by rfl) (by omega) ls (lv_sub hl [2, 3, 1, 0] rfl)
  · refine z_sipush (pc := 10) hx hb dX3_used_10 (by decide) ?_
    exact rd_iret hx hb hrt hlk dX3_used_13 (by rw [usedV, if_neg (by omega)])

set_option maxHeartbeats 4000000 in
set_option maxRecDepth 100000 in
theorem c_X3_fails (D : va_G) (cI cJ : ClassId) (l : Launch) (ad : Nat → Nat) (n : Int) (st hr ca : Nat → Int) (pcs : Int) (fr lv : Nat → Int) (k : Int) (ts th sp hv : Nat → Int) (pr hc : Int) (hV : VT k ts th sp pr hc) (f : Int) (r_f : -2147483648 ≤ f ∧ f ≤ 2147483647) : RD D cI cJ l yX3_fails cX3_fails 6 (some .int) 2 42 [.ref (ad 0), .int (zi (f))] (wX ad cI cJ n st hr ca pcs fr lv k ts th sp hv pr hc) (.int (zi (failsV k ts th sp f))) := by
  refine RD.of (by decide) (Nat.le_of_ble_eq_true rfl) ?_
  intro p e s m args below meth c hx hb hrt hml hown hT hlk hK hP ls hl
  replace hl : lv_has ls 6 [(0, .ref (ad 0)), (1, .int (zi (f)))] := hl
  obtain ⟨hk, hts, hth, ht1, hsp, hpr, hhc⟩ := id hV
  have loop : ∀ u : Nat, u ≤ k.toNat → ∀ (z1 z2 z3 : Int), (failC k.toNat ts th sp (k.toNat - u) z1 z2 = failC k.toNat ts th sp k.toNat (f * 10) 0) → (z3 = (u : Int)) → (1 ≤ f ∧ f ≤ 100000) → (0 < z1 ∧ z1 ≤ 1000000) → (0 ≤ z2 ∧ z2 ≤ 500 * (u : Int)) → ∀ ls : Array Slot, lv_has ls 6 [(0, .ref (ad 0)), (2, .int (zi (z1))), (3, .int (zi (z2))), (4, .int (zi (z3)))] → W p l e (RM 2 42) s m args below meth c s.heap [] 0 0 (MQ below (QR (.int (zi (failsV k ts th sp f))) s.heap) args s 0 0 (fun _ => False)) (F0 m 24 ls []) := by
    refine lp_up (fun u => ∀ (z1 z2 z3 : Int), (failC k.toNat ts th sp (k.toNat - u) z1 z2 = failC k.toNat ts th sp k.toNat (f * 10) 0) → (z3 = (u : Int)) → (1 ≤ f ∧ f ≤ 100000) → (0 < z1 ∧ z1 ≤ 1000000) → (0 ≤ z2 ∧ z2 ≤ 500 * (u : Int)) → ∀ ls : Array Slot, lv_has ls 6 [(0, .ref (ad 0)), (2, .int (zi (z1))), (3, .int (zi (z2))), (4, .int (zi (z3)))] → W p l e (RM 2 42) s m args below meth c s.heap [] 0 0 (MQ below (QR (.int (zi (failsV k ts th sp f))) s.heap) args s 0 0 (fun _ => False)) (F0 m 24 ls [])) (k.toNat) ?_ ?_
    · intro z1 z2 z3 e1 e2 e3 e4 e5 ls hl
      refine lv_iload (pc := 24) hx hb dX3_fails_24 (lv_at hl 3 rfl) ?_
      refine lv_aload_n (pc := 26) hx hb dX3_fails_26 rfl (lv_at hl 0 rfl) ?_
      refine va_get (D := D) (cl := vwCl) (ci := 3) (v := .ref (ad 3)) (C := RX3) (T := TX3) (N := 7) (pc := 27) hx hb hT inT3 hown hK.1 hP 0 rfl rfl 2 (by decide) (hT _ tw_77) (fun _ h9 => h9) rfl dX3_fails_27 ?_
      refine va_get (D := D) (cl := vwCl) (ci := 1) (v := .int (zi (k))) (C := RX1) (T := TX1) (N := 3) (pc := 30) hx hb hT inT1 hown hK.1 hP 3 rfl rfl 2 (by decide) (hT _ tw_67) (fun _ h9 => h9) rfl dX3_fails_30 ?_
      refine z_icmp_ge (tgt := 114) (pc := 33) hx hb dX3_fails_33 (by decide) (by omega) (by omega) (fun c_1 => ?_) (fun c_1 => absurd c_1 (by omega))
      refine z_iconst (pc := 114) hx hb dX3_fails_114 ?_
      exact rd_iret hx hb hrt hlk dX3_fails_115 (by rw [failsV, if_pos e3, ← e1, Nat.sub_self, failC])
    · intro u hu ih z1 z2 z3 e1 e2 e3 e4 e5 ls hl
      refine lv_iload (pc := 24) hx hb dX3_fails_24 (lv_at hl 3 rfl) ?_
      refine lv_aload_n (pc := 26) hx hb dX3_fails_26 rfl (lv_at hl 0 rfl) ?_
      refine va_get (D := D) (cl := vwCl) (ci := 3) (v := .ref (ad 3)) (C := RX3) (T := TX3) (N := 7) (pc := 27) hx hb hT inT3 hown hK.1 hP 0 rfl rfl 2 (by decide) (hT _ tw_77) (fun _ h9 => h9) rfl dX3_fails_27 ?_
      refine va_get (D := D) (cl := vwCl) (ci := 1) (v := .int (zi (k))) (C := RX1) (T := TX1) (N := 3) (pc := 30) hx hb hT inT1 hown hK.1 hP 3 rfl rfl 2 (by decide) (hT _ tw_67) (fun _ h9 => h9) rfl dX3_fails_30 ?_
      refine z_icmp_ge (tgt := 114) (pc := 33) hx hb dX3_fails_33 (by decide) (by omega) (by omega) (fun c_2 => absurd c_2 (by omega)) (fun c_2 => ?_)
      have ej : k.toNat - u = (k.toNat - (u + 1)) + 1 := by omega
      have ek : k.toNat - (k.toNat - (u + 1) + 1) = u := by omega
      refine lv_aload_n (pc := 36) hx hb dX3_fails_36 rfl (lv_at hl 0 rfl) ?_
      refine va_get (D := D) (cl := vwCl) (ci := 3) (v := .ref (ad 4)) (C := RX3) (T := TX3) (N := 7) (pc := 37) hx hb hT inT3 hown hK.1 hP 0 rfl rfl 3 (by decide) (hT _ tw_78) (fun _ h9 => h9) rfl dX3_fails_37 ?_
      refine lv_aload_n (pc := 40) hx hb dX3_fails_40 rfl (lv_at hl 0 rfl) ?_
      refine va_get (D := D) (cl := vwCl) (ci := 3) (v := .ref (ad 3)) (C := RX3) (T := TX3) (N := 7) (pc := 41) hx hb hT inT3 hown hK.1 hP 0 rfl rfl 2 (by decide) (hT _ tw_77) (fun _ h9 => h9) rfl dX3_fails_41 ?_
      refine va_get (D := D) (cl := vwCl) (ci := 1) (v := .ref (ad 11)) (C := RX1) (T := TX1) (N := 3) (pc := 44) hx hb hT inT1 hown hK.1 hP 3 rfl rfl 0 (by decide) (hT _ tw_63) (fun _ h9 => h9) rfl dX3_fails_44 ?_
      refine lv_iload (pc := 47) hx hb dX3_fails_47 (lv_at hl 3 rfl) ?_
      refine z_iald (pc := 49) hx hb hK hP 11 (u) (f := ts) rfl (by omega) (by omega) (by omega) dX3_fails_49 ?_
      have r_3 := hts (u)
      refine z_iald (pc := 50) hx hb hK hP 4 (((ts (u))).toNat) (f := sp) rfl (by omega) (by omega) (by omega) dX3_fails_50 ?_
      have r_4 := hsp (((ts (u))).toNat) (by omega)
      refine lv_istore (lv' := [(5, .int (zi ((sp (((ts (u))).toNat))))), (0, .ref (ad 0)), (2, .int (zi (z1))), (3, .int (zi (z2))), (4, .int (zi (z3)))]) (pc := 51) hx hb dX3_fails_51 hl (by decide) rfl (fun ls hl => ?_)
      refine lv_aload_n (pc := 53) hx hb dX3_fails_53 rfl (lv_at hl 1 rfl) ?_
      refine va_get (D := D) (cl := vwCl) (ci := 3) (v := .ref (ad 3)) (C := RX3) (T := TX3) (N := 7) (pc := 54) hx hb hT inT3 hown hK.1 hP 0 rfl rfl 2 (by decide) (hT _ tw_77) (fun _ h9 => h9) rfl dX3_fails_54 ?_
      refine va_get (D := D) (cl := vwCl) (ci := 1) (v := .ref (ad 12)) (C := RX1) (T := TX1) (N := 3) (pc := 57) hx hb hT inT1 hown hK.1 hP 3 rfl rfl 1 (by decide) (hT _ tw_65) (fun _ h9 => h9) rfl dX3_fails_57 ?_
      refine lv_iload (pc := 60) hx hb dX3_fails_60 (lv_at hl 4 rfl) ?_
      refine z_iald (pc := 62) hx hb hK hP 12 (u) (f := th) rfl (by omega) (by omega) (by omega) dX3_fails_62 ?_
      have r_5 := hth (u)
      refine lv_iload (pc := 63) hx hb dX3_fails_63 (lv_at hl 0 rfl) ?_
      refine z_imul (pc := 65) hx hb dX3_fails_65 ?_
      have hm := mul_rng (a := th u) (b := sp (ts u).toNat) (A := 500) (B := 1000) (by omega) (by omega)
      refine lv_iload_n (pc := 66) hx hb dX3_fails_66 rfl (lv_at hl 2 rfl) ?_
      refine z_icmp_lt (tgt := 79) (pc := 67) hx hb dX3_fails_67 (by decide) (by omega) (by omega) (fun c_6 => ?_) (fun c_6 => ?_)
      · refine lv_iload_n (pc := 79) hx hb dX3_fails_79 rfl (lv_at hl 2 rfl) ?_
        refine lv_aload_n (pc := 80) hx hb dX3_fails_80 rfl (lv_at hl 1 rfl) ?_
        refine va_get (D := D) (cl := vwCl) (ci := 3) (v := .ref (ad 3)) (C := RX3) (T := TX3) (N := 7) (pc := 81) hx hb hT inT3 hown hK.1 hP 0 rfl rfl 2 (by decide) (hT _ tw_77) (fun _ h9 => h9) rfl dX3_fails_81 ?_
        refine va_get (D := D) (cl := vwCl) (ci := 1) (v := .ref (ad 12)) (C := RX1) (T := TX1) (N := 3) (pc := 84) hx hb hT inT1 hown hK.1 hP 3 rfl rfl 1 (by decide) (hT _ tw_65) (fun _ h9 => h9) rfl dX3_fails_84 ?_
        refine lv_iload (pc := 87) hx hb dX3_fails_87 (lv_at hl 4 rfl) ?_
        refine z_iald (pc := 89) hx hb hK hP 12 (u) (f := th) rfl (by omega) (by omega) (by omega) dX3_fails_89 ?_
        have r_7 := hth (u)
        refine lv_iload (pc := 90) hx hb dX3_fails_90 (lv_at hl 0 rfl) ?_
        refine z_imul (pc := 92) hx hb dX3_fails_92 ?_
        refine z_isub (pc := 93) hx hb dX3_fails_93 ?_
        refine lv_istore_n (lv' := [(2, .int (zi ((z1 - ((th (u)) * (sp (((ts (u))).toNat))))))), (5, .int (zi ((sp (((ts (u))).toNat))))), (0, .ref (ad 0)), (3, .int (zi (z2))), (4, .int (zi (z3)))]) (pc := 94) hx hb dX3_fails_94 rfl hl (by decide) rfl (fun ls hl => ?_)
        refine lv_iload_n (pc := 95) hx hb dX3_fails_95 rfl (lv_at hl 3 rfl) ?_
        refine lv_aload_n (pc := 96) hx hb dX3_fails_96 rfl (lv_at hl 2 rfl) ?_
        refine va_get (D := D) (cl := vwCl) (ci := 3) (v := .ref (ad 3)) (C := RX3) (T := TX3) (N := 7) (pc := 97) hx hb hT inT3 hown hK.1 hP 0 rfl rfl 2 (by decide) (hT _ tw_77) (fun _ h9 => h9) rfl dX3_fails_97 ?_
        refine va_get (D := D) (cl := vwCl) (ci := 1) (v := .ref (ad 12)) (C := RX1) (T := TX1) (N := 3) (pc := 100) hx hb hT inT1 hown hK.1 hP 3 rfl rfl 1 (by decide) (hT _ tw_65) (fun _ h9 => h9) rfl dX3_fails_100 ?_
        refine lv_iload (pc := 103) hx hb dX3_fails_103 (lv_at hl 4 rfl) ?_
        refine z_iald (pc := 105) hx hb hK hP 12 (u) (f := th) rfl (by omega) (by omega) (by omega) dX3_fails_105 ?_
        have r_8 := hth (u)
        refine z_iadd (pc := 106) hx hb dX3_fails_106 ?_
        refine lv_istore_n (lv' := [(3, .int (zi ((z2 + (th (u)))))), (2, .int (zi ((z1 - ((th (u)) * (sp (((ts (u))).toNat))))))), (5, .int (zi ((sp (((ts (u))).toNat))))), (0, .ref (ad 0)), (4, .int (zi (z3)))]) (pc := 107) hx hb dX3_fails_107 rfl hl (by decide) rfl (fun ls hl => ?_)
        refine lv_iinc (v := zi (z3 + 1)) (lv' := [(4, .int (zi ((z3 + 1)))), (3, .int (zi ((z2 + (th (u)))))), (2, .int (zi ((z1 - ((th (u)) * (sp (((ts (u))).toNat))))))), (5, .int (zi ((sp (((ts (u))).toNat))))), (0, .ref (ad 0))]) (pc := 108) hx hb dX3_fails_108 hl (k := 4) rfl (zi_add _ _) (by decide) rfl (fun ls hl => ?_)
        refine lv_goto (tgt := 24) (pc := 111) hx hb dX3_fails_111 (by decide) ?_
        exact ih  _ _ _ (by rw [← e1, ej, failC, ek, if_neg (by omega)]) (by rw [e2]; rfl) (e3) (by omega) (by omega) ls (lv_sub hl [4, 2, 1, 0] rfl)
      · refine lv_iload_n (pc := 70) hx hb dX3_fails_70 rfl (lv_at hl 3 rfl) ?_
        refine lv_iload_n (pc := 71) hx hb dX3_fails_71 rfl (lv_at hl 2 rfl) ?_
        refine lv_iload (pc := 72) hx hb dX3_fails_72 (lv_at hl 0 rfl) ?_
        refine rd_S (pc := 74) hx hb hml hown hT hK (c_X3_roundedUp D cI cJ l (z1) ((sp (((ts (u))).toNat))) (by omega)) ca_X3_roundedUp tw_295 va_Pnil ⟨Nat.le_of_ble_eq_true rfl, Nat.le_of_ble_eq_true rfl⟩ rfl hl.1 (As := [.int (zi (z1)), .int (zi ((sp (((ts (u))).toNat))))]) (rest := [.int (zi (z2))]) rfl (Nat.le_of_ble_eq_true rfl) ⟨Nat.le_of_ble_eq_true rfl, Nat.le_of_ble_eq_true rfl⟩ dX3_fails_74 ?_
        refine z_iadd (pc := 77) hx hb dX3_fails_77 ?_
        exact rd_iret hx hb hrt hlk dX3_fails_78 (by rw [failsV, if_pos e3, ← e1, ej, failC, ek, if_pos (by omega)])
  refine lv_iload_n (pc := 0) hx hb dX3_fails_0 rfl (lv_at hl 1 rfl) ?_
  refine z_iconst (pc := 1) hx hb dX3_fails_1 ?_
  refine z_ldc (pc := 2) hx hb (100000) hown (hT _ tw_253) (by decide) dX3_fails_2 ?_
  refine rd_S (pc := 4) hx hb hml hown hT hK (c_X3_isWithin D cI cJ l (f) (by omega) (1) (by omega) (100000) (by omega)) ca_X3_isWithin tw_107 va_Pnil ⟨Nat.le_of_ble_eq_true rfl, Nat.le_of_ble_eq_true rfl⟩ rfl hl.1 (As := [.int (zi (f)), .int (zi (1)), .int (zi (100000))]) (rest := []) rfl (Nat.le_of_ble_eq_true rfl) ⟨Nat.le_of_ble_eq_true rfl, Nat.le_of_ble_eq_true rfl⟩ dX3_fails_4 ?_
  refine z_ifB_ne (tgt := 14) (pc := 7) hx hb dX3_fails_7 (by decide) (fun c_9 => ?_) (fun c_9 => ?_)
  · refine lv_iload_n (pc := 14) hx hb dX3_fails_14 rfl (lv_at hl 1 rfl) ?_
    refine z_bipush (pc := 15) hx hb dX3_fails_15 (by decide) ?_
    refine z_imul (pc := 17) hx hb dX3_fails_17 ?_
    refine lv_istore_n (lv' := [(2, .int (zi ((f * 10)))), (0, .ref (ad 0)), (1, .int (zi (f)))]) (pc := 18) hx hb dX3_fails_18 rfl hl (by decide) rfl (fun ls hl => ?_)
    refine z_iconst (pc := 19) hx hb dX3_fails_19 ?_
    refine lv_istore_n (lv' := [(3, .int (zi (0))), (2, .int (zi ((f * 10)))), (0, .ref (ad 0)), (1, .int (zi (f)))]) (pc := 20) hx hb dX3_fails_20 rfl hl (by decide) rfl (fun ls hl => ?_)
    refine z_iconst (pc := 21) hx hb dX3_fails_21 ?_
    refine lv_istore (lv' := [(4, .int (zi (0))), (3, .int (zi (0))), (2, .int (zi ((f * 10)))), (0, .ref (ad 0)), (1, .int (zi (f)))]) (pc := 22) hx hb dX3_fails_22 hl (by decide) rfl (fun ls hl => ?_)
    exact loop 0 (by omega) _ _ _ (by rfl) (by rfl) (by omega) (by omega) (by omega) ls (lv_sub hl [3, 2, 1, 0] rfl)
  · refine z_sipush (pc := 10) hx hb dX3_fails_10 (by decide) ?_
    exact rd_iret hx hb hrt hlk dX3_fails_13 (by rw [failsV, if_neg (by omega)])

set_option maxHeartbeats 4000000 in
set_option maxRecDepth 100000 in
theorem c_X3_rule (D : va_G) (cI cJ : ClassId) (l : Launch) (ad : Nat → Nat) (n : Int) (st hr ca : Nat → Int) (pcs : Int) (fr lv : Nat → Int) (k : Int) (ts th sp hv : Nat → Int) (pr hc : Int) (w : Int) (r_w : -2147483648 ≤ w ∧ w ≤ 2147483647) (v : Int) (r_v : -2147483648 ≤ v ∧ v ≤ 2147483647) : WR D cI cJ l yX3_rule cX3_rule 4 (some .int) 1 22 [.ref (ad 0), .int (zi (w)), .int (zi (v))] (wX ad cI cJ n st hr ca pcs fr lv k ts th sp hv pr hc) (fun v' ws' => ∃ x : Int × Int × Int, x = ruleS pr hc w v ∧ v' = .int (zi x.1) ∧ ws' = (wX ad cI cJ n st hr ca pcs fr lv k ts th sp hv x.2.1 x.2.2)) := by
  refine WR.of (by decide) (Nat.le_of_ble_eq_true rfl) ?_
  intro p e s m args below meth c hx hb hrt hml hown hT hlk hK hP hD hS ls hl
  replace hl : lv_has ls 4 [(0, .ref (ad 0)), (1, .int (zi (w))), (2, .int (zi (v)))] := hl
  refine lv_iload_n (pc := 0) hx hb dX3_rule_0 rfl (lv_at hl 1 rfl) ?_
  refine z_if_ne (tgt := 27) (pc := 1) hx hb dX3_rule_1 (by decide) (by omega) (fun c_1 => ?_) (fun c_1 => ?_)
  · refine lv_iload_n (pc := 27) hx hb dX3_rule_27 rfl (lv_at hl 1 rfl) ?_
    refine z_iconst (pc := 28) hx hb dX3_rule_28 ?_
    refine z_icmp_ne (tgt := 54) (pc := 29) hx hb dX3_rule_29 (by decide) (by omega) (by omega) (fun c_2 => ?_) (fun c_2 => ?_)
    · refine z_sipush (pc := 54) hx hb dX3_rule_54 (by decide) ?_
      exact wr_iret hx hb hrt hlk dX3_rule_57 hP hS (⟨(-1002, pr, hc), by rw [ruleS, if_neg (by omega), if_neg (by omega)], rfl, rfl⟩)
    · refine lv_iload_n (pc := 32) hx hb dX3_rule_32 rfl (lv_at hl 2 rfl) ?_
      refine z_iconst (pc := 33) hx hb dX3_rule_33 ?_
      refine z_bipush (pc := 34) hx hb dX3_rule_34 (by decide) ?_
      refine rd_S (pc := 36) hx hb hml hown hT hK (c_X3_isWithin D cI cJ l (v) (by omega) (0) (by omega) (20) (by omega)) ca_X3_isWithin tw_107 va_Pnil ⟨Nat.le_of_ble_eq_true rfl, Nat.le_of_ble_eq_true rfl⟩ rfl hl.1 (As := [.int (zi (v)), .int (zi (0)), .int (zi (20))]) (rest := []) rfl (Nat.le_of_ble_eq_true rfl) ⟨Nat.le_of_ble_eq_true rfl, Nat.le_of_ble_eq_true rfl⟩ dX3_rule_36 ?_
      refine z_ifB_eq (tgt := 54) (pc := 39) hx hb dX3_rule_39 (by decide) (fun c_3 => ?_) (fun c_3 => ?_)
      · refine z_sipush (pc := 54) hx hb dX3_rule_54 (by decide) ?_
        exact wr_iret hx hb hrt hlk dX3_rule_57 hP hS (⟨(-1002, pr, hc), by rw [ruleS, if_neg (by omega), if_neg (by omega)], rfl, rfl⟩)
      · refine lv_aload_n (pc := 42) hx hb dX3_rule_42 rfl (lv_at hl 0 rfl) ?_
        refine va_get (D := D) (cl := vwCl) (ci := 3) (v := .int (zi (hc))) (C := RX3) (T := TX3) (N := 7) (pc := 43) hx hb hT inT3 hown hK.1 hP 0 rfl rfl 6 (by decide) (hT _ tw_81) (fun _ h9 => h9) rfl dX3_rule_43 ?_
        refine lv_istore_n (lv' := [(3, .int (zi (hc))), (0, .ref (ad 0)), (1, .int (zi (w))), (2, .int (zi (v)))]) (pc := 46) hx hb dX3_rule_46 rfl hl (by decide) rfl (fun ls hl => ?_)
        refine lv_aload_n (pc := 47) hx hb dX3_rule_47 rfl (lv_at hl 1 rfl) ?_
        refine lv_iload_n (pc := 48) hx hb dX3_rule_48 rfl (lv_at hl 3 rfl) ?_
        refine va_put (D := D) (cl := vwCl) (ci := 3) (v := .int (zi (v))) (ty := .int) (C := RX3) (T := TX3) (N := 7) (pc := 49) hx hb hT inT3 tyX3 tyX3_ok nmX3 hown hK.1 hP hD hS 0 rfl rfl 6 (by decide) (hT _ tw_81) (fun _ h9 => h9) rfl (by decide +kernel) rfl rfl (Nat.le_of_ble_eq_true rfl) dX3_rule_49 (fun H locs hP hD hS => ?_)
        replace hP : va_P D vwCl (wX ad cI cJ n st hr ca pcs fr lv k ts th sp hv pr v) H := hP
        replace hD : va_D (inW (wX ad cI cJ n st hr ca pcs fr lv k ts th sp hv pr hc)) (wX ad cI cJ n st hr ca pcs fr lv k ts th sp hv pr v) := hD
        refine lv_iload_n (pc := 52) hx hb dX3_rule_52 rfl (lv_at hl 0 rfl) ?_
        exact wr_iret hx hb hrt hlk dX3_rule_53 hP hS (⟨(hc, pr, v), by rw [ruleS, if_neg (by omega), if_pos (by omega)], rfl, rfl⟩)
  · refine lv_iload_n (pc := 4) hx hb dX3_rule_4 rfl (lv_at hl 2 rfl) ?_
    refine z_iconst (pc := 5) hx hb dX3_rule_5 ?_
    refine z_sipush (pc := 6) hx hb dX3_rule_6 (by decide) ?_
    refine rd_S (pc := 9) hx hb hml hown hT hK (c_X3_isWithin D cI cJ l (v) (by omega) (1) (by omega) (500) (by omega)) ca_X3_isWithin tw_107 va_Pnil ⟨Nat.le_of_ble_eq_true rfl, Nat.le_of_ble_eq_true rfl⟩ rfl hl.1 (As := [.int (zi (v)), .int (zi (1)), .int (zi (500))]) (rest := []) rfl (Nat.le_of_ble_eq_true rfl) ⟨Nat.le_of_ble_eq_true rfl, Nat.le_of_ble_eq_true rfl⟩ dX3_rule_9 ?_
    refine z_ifB_eq (tgt := 27) (pc := 12) hx hb dX3_rule_12 (by decide) (fun c_4 => ?_) (fun c_4 => ?_)
    · refine lv_iload_n (pc := 27) hx hb dX3_rule_27 rfl (lv_at hl 1 rfl) ?_
      refine z_iconst (pc := 28) hx hb dX3_rule_28 ?_
      refine z_icmp_ne (tgt := 54) (pc := 29) hx hb dX3_rule_29 (by decide) (by omega) (by omega) (fun c_5 => ?_) (fun c_5 => ?_)
      · refine z_sipush (pc := 54) hx hb dX3_rule_54 (by decide) ?_
        exact wr_iret hx hb hrt hlk dX3_rule_57 hP hS (⟨(-1002, pr, hc), by rw [ruleS, if_neg (by omega), if_neg (by omega)], rfl, rfl⟩)
      · refine lv_iload_n (pc := 32) hx hb dX3_rule_32 rfl (lv_at hl 2 rfl) ?_
        refine z_iconst (pc := 33) hx hb dX3_rule_33 ?_
        refine z_bipush (pc := 34) hx hb dX3_rule_34 (by decide) ?_
        refine rd_S (pc := 36) hx hb hml hown hT hK (c_X3_isWithin D cI cJ l (v) (by omega) (0) (by omega) (20) (by omega)) ca_X3_isWithin tw_107 va_Pnil ⟨Nat.le_of_ble_eq_true rfl, Nat.le_of_ble_eq_true rfl⟩ rfl hl.1 (As := [.int (zi (v)), .int (zi (0)), .int (zi (20))]) (rest := []) rfl (Nat.le_of_ble_eq_true rfl) ⟨Nat.le_of_ble_eq_true rfl, Nat.le_of_ble_eq_true rfl⟩ dX3_rule_36 ?_
        refine z_ifB_eq (tgt := 54) (pc := 39) hx hb dX3_rule_39 (by decide) (fun c_6 => ?_) (fun c_6 => ?_)
        · refine z_sipush (pc := 54) hx hb dX3_rule_54 (by decide) ?_
          exact wr_iret hx hb hrt hlk dX3_rule_57 hP hS (⟨(-1002, pr, hc), by rw [ruleS, if_neg (by omega), if_neg (by omega)], rfl, rfl⟩)
        · refine lv_aload_n (pc := 42) hx hb dX3_rule_42 rfl (lv_at hl 0 rfl) ?_
          refine va_get (D := D) (cl := vwCl) (ci := 3) (v := .int (zi (hc))) (C := RX3) (T := TX3) (N := 7) (pc := 43) hx hb hT inT3 hown hK.1 hP 0 rfl rfl 6 (by decide) (hT _ tw_81) (fun _ h9 => h9) rfl dX3_rule_43 ?_
          refine lv_istore_n (lv' := [(3, .int (zi (hc))), (0, .ref (ad 0)), (1, .int (zi (w))), (2, .int (zi (v)))]) (pc := 46) hx hb dX3_rule_46 rfl hl (by decide) rfl (fun ls hl => ?_)
          refine lv_aload_n (pc := 47) hx hb dX3_rule_47 rfl (lv_at hl 1 rfl) ?_
          refine lv_iload_n (pc := 48) hx hb dX3_rule_48 rfl (lv_at hl 3 rfl) ?_
          refine va_put (D := D) (cl := vwCl) (ci := 3) (v := .int (zi (v))) (ty := .int) (C := RX3) (T := TX3) (N := 7) (pc := 49) hx hb hT inT3 tyX3 tyX3_ok nmX3 hown hK.1 hP hD hS 0 rfl rfl 6 (by decide) (hT _ tw_81) (fun _ h9 => h9) rfl (by decide +kernel) rfl rfl (Nat.le_of_ble_eq_true rfl) dX3_rule_49 (fun H locs hP hD hS => ?_)
          replace hP : va_P D vwCl (wX ad cI cJ n st hr ca pcs fr lv k ts th sp hv pr v) H := hP
          replace hD : va_D (inW (wX ad cI cJ n st hr ca pcs fr lv k ts th sp hv pr hc)) (wX ad cI cJ n st hr ca pcs fr lv k ts th sp hv pr v) := hD
          refine lv_iload_n (pc := 52) hx hb dX3_rule_52 rfl (lv_at hl 0 rfl) ?_
          exact wr_iret hx hb hrt hlk dX3_rule_53 hP hS (⟨(hc, pr, v), by rw [ruleS, if_neg (by omega), if_pos (by omega)], rfl, rfl⟩)
    · refine lv_aload_n (pc := 15) hx hb dX3_rule_15 rfl (lv_at hl 0 rfl) ?_
      refine va_get (D := D) (cl := vwCl) (ci := 3) (v := .int (zi (pr))) (C := RX3) (T := TX3) (N := 7) (pc := 16) hx hb hT inT3 hown hK.1 hP 0 rfl rfl 5 (by decide) (hT _ tw_80) (fun _ h9 => h9) rfl dX3_rule_16 ?_
      refine lv_istore_n (lv' := [(3, .int (zi (pr))), (0, .ref (ad 0)), (1, .int (zi (w))), (2, .int (zi (v)))]) (pc := 19) hx hb dX3_rule_19 rfl hl (by decide) rfl (fun ls hl => ?_)
      refine lv_aload_n (pc := 20) hx hb dX3_rule_20 rfl (lv_at hl 1 rfl) ?_
      refine lv_iload_n (pc := 21) hx hb dX3_rule_21 rfl (lv_at hl 3 rfl) ?_
      refine va_put (D := D) (cl := vwCl) (ci := 3) (v := .int (zi (v))) (ty := .int) (C := RX3) (T := TX3) (N := 7) (pc := 22) hx hb hT inT3 tyX3 tyX3_ok nmX3 hown hK.1 hP hD hS 0 rfl rfl 5 (by decide) (hT _ tw_80) (fun _ h9 => h9) rfl (by decide +kernel) rfl rfl (Nat.le_of_ble_eq_true rfl) dX3_rule_22 (fun H locs hP hD hS => ?_)
      replace hP : va_P D vwCl (wX ad cI cJ n st hr ca pcs fr lv k ts th sp hv v hc) H := hP
      replace hD : va_D (inW (wX ad cI cJ n st hr ca pcs fr lv k ts th sp hv pr hc)) (wX ad cI cJ n st hr ca pcs fr lv k ts th sp hv v hc) := hD
      refine lv_iload_n (pc := 25) hx hb dX3_rule_25 rfl (lv_at hl 0 rfl) ?_
      exact wr_iret hx hb hrt hlk dX3_rule_26 hP hS (⟨(pr, v, hc), by rw [ruleS, if_pos (by omega)], rfl, rfl⟩)

set_option maxHeartbeats 4000000 in
set_option maxRecDepth 100000 in
theorem c_X3_end (D : va_G) (cI cJ : ClassId) (l : Launch) (ad : Nat → Nat) (n : Int) (st hr ca : Nat → Int) (pcs : Int) (fr lv : Nat → Int) (k : Int) (ts th sp hv : Nat → Int) (pr hc : Int) (x : Int) (r_x : -2147483648 ≤ x ∧ x ≤ 2147483647) (y : Int) (r_y : -2147483648 ≤ y ∧ y ≤ 2147483647) (t : Int) (r_t : -2147483648 ≤ t ∧ t ≤ 2147483647) (w : Int) (r_w : -2147483648 ≤ w ∧ w ≤ 2147483647) : RD D cI cJ l yX3_end cX3_end 5 (some .int) 3 73 [.ref (ad 0), .int (zi (x)), .int (zi (y)), .int (zi (t)), .int (zi (w))] (wX ad cI cJ n st hr ca pcs fr lv k ts th sp hv pr hc) (.int (zi (endV x y t w))) := by
  refine RD.of (by decide) (Nat.le_of_ble_eq_true rfl) ?_
  intro p e s m args below meth c hx hb hrt hml hown hT hlk hK hP ls hl
  replace hl : lv_has ls 5 [(0, .ref (ad 0)), (1, .int (zi (x))), (2, .int (zi (y))), (3, .int (zi (t))), (4, .int (zi (w)))] := hl
  refine lv_iload_n (pc := 0) hx hb dX3_end_0 rfl (lv_at hl 1 rfl) ?_
  refine z_iconst (pc := 1) hx hb dX3_end_1 ?_
  refine z_bipush (pc := 2) hx hb dX3_end_2 (by decide) ?_
  refine rd_S (pc := 4) hx hb hml hown hT hK (c_X3_isWithin D cI cJ l (x) (by omega) (1) (by omega) (12) (by omega)) ca_X3_isWithin tw_107 va_Pnil ⟨Nat.le_of_ble_eq_true rfl, Nat.le_of_ble_eq_true rfl⟩ rfl hl.1 (As := [.int (zi (x)), .int (zi (1)), .int (zi (12))]) (rest := []) rfl (Nat.le_of_ble_eq_true rfl) ⟨Nat.le_of_ble_eq_true rfl, Nat.le_of_ble_eq_true rfl⟩ dX3_end_4 ?_
  refine z_ifB_eq (tgt := 40) (pc := 7) hx hb dX3_end_7 (by decide) (fun c_1 => ?_) (fun c_1 => ?_)
  · refine z_sipush (pc := 40) hx hb dX3_end_40 (by decide) ?_
    exact rd_iret hx hb hrt hlk dX3_end_43 (by rw [endV, if_neg (by omega)])
  · refine lv_iload_n (pc := 10) hx hb dX3_end_10 rfl (lv_at hl 2 rfl) ?_
    refine z_iconst (pc := 11) hx hb dX3_end_11 ?_
    refine lv_iload_n (pc := 12) hx hb dX3_end_12 rfl (lv_at hl 1 rfl) ?_
    refine rd_S (pc := 13) hx hb hml hown hT hK (c_X3_isWithin D cI cJ l (y) (by omega) (0) (by omega) (x) (by omega)) ca_X3_isWithin tw_107 va_Pnil ⟨Nat.le_of_ble_eq_true rfl, Nat.le_of_ble_eq_true rfl⟩ rfl hl.1 (As := [.int (zi (y)), .int (zi (0)), .int (zi (x))]) (rest := []) rfl (Nat.le_of_ble_eq_true rfl) ⟨Nat.le_of_ble_eq_true rfl, Nat.le_of_ble_eq_true rfl⟩ dX3_end_13 ?_
    refine z_ifB_eq (tgt := 40) (pc := 16) hx hb dX3_end_16 (by decide) (fun c_2 => ?_) (fun c_2 => ?_)
    · refine z_sipush (pc := 40) hx hb dX3_end_40 (by decide) ?_
      exact rd_iret hx hb hrt hlk dX3_end_43 (by rw [endV, if_neg (by omega)])
    · refine lv_iload_n (pc := 19) hx hb dX3_end_19 rfl (lv_at hl 3 rfl) ?_
      refine z_bipush (pc := 20) hx hb dX3_end_20 (by decide) ?_
      refine z_bipush (pc := 22) hx hb dX3_end_22 (by decide) ?_
      refine rd_S (pc := 24) hx hb hml hown hT hK (c_X3_isWithin D cI cJ l (t) (by omega) (50) (by omega) (99) (by omega)) ca_X3_isWithin tw_107 va_Pnil ⟨Nat.le_of_ble_eq_true rfl, Nat.le_of_ble_eq_true rfl⟩ rfl hl.1 (As := [.int (zi (t)), .int (zi (50)), .int (zi (99))]) (rest := []) rfl (Nat.le_of_ble_eq_true rfl) ⟨Nat.le_of_ble_eq_true rfl, Nat.le_of_ble_eq_true rfl⟩ dX3_end_24 ?_
      refine z_ifB_eq (tgt := 40) (pc := 27) hx hb dX3_end_27 (by decide) (fun c_3 => ?_) (fun c_3 => ?_)
      · refine z_sipush (pc := 40) hx hb dX3_end_40 (by decide) ?_
        exact rd_iret hx hb hrt hlk dX3_end_43 (by rw [endV, if_neg (by omega)])
      · refine lv_iload (pc := 30) hx hb dX3_end_30 (lv_at hl 4 rfl) ?_
        refine z_iconst (pc := 32) hx hb dX3_end_32 ?_
        refine z_iconst (pc := 33) hx hb dX3_end_33 ?_
        refine rd_S (pc := 34) hx hb hml hown hT hK (c_X3_isWithin D cI cJ l (w) (by omega) (0) (by omega) (1) (by omega)) ca_X3_isWithin tw_107 va_Pnil ⟨Nat.le_of_ble_eq_true rfl, Nat.le_of_ble_eq_true rfl⟩ rfl hl.1 (As := [.int (zi (w)), .int (zi (0)), .int (zi (1))]) (rest := []) rfl (Nat.le_of_ble_eq_true rfl) ⟨Nat.le_of_ble_eq_true rfl, Nat.le_of_ble_eq_true rfl⟩ dX3_end_34 ?_
        refine z_ifB_ne (tgt := 44) (pc := 37) hx hb dX3_end_37 (by decide) (fun c_4 => ?_) (fun c_4 => ?_)
        · refine lv_iload (pc := 44) hx hb dX3_end_44 (lv_at hl 4 rfl) ?_
          refine z_if_ne (tgt := 61) (pc := 46) hx hb dX3_end_46 (by decide) (by omega) (fun c_5 => ?_) (fun c_5 => ?_)
          · refine lv_iload_n (pc := 61) hx hb dX3_end_61 rfl (lv_at hl 1 rfl) ?_
            refine lv_iload_n (pc := 62) hx hb dX3_end_62 rfl (lv_at hl 2 rfl) ?_
            refine z_bipush (pc := 63) hx hb dX3_end_63 (by decide) ?_
            refine lv_iload_n (pc := 65) hx hb dX3_end_65 rfl (lv_at hl 3 rfl) ?_
            refine z_isub (pc := 66) hx hb dX3_end_66 ?_
            refine rd_S (pc := 67) hx hb hml hown hT hK (c_X3_highEnd D cI cJ l (x) (y) ((100 - t)) x.toNat y.toNat (by omega) (by omega) (by omega)) ca_X3_highEnd tw_318 va_Pnil ⟨Nat.le_of_ble_eq_true rfl, Nat.le_of_ble_eq_true rfl⟩ rfl hl.1 (As := [.int (zi (x)), .int (zi (y)), .int (zi ((100 - t)))]) (rest := []) rfl (Nat.le_of_ble_eq_true rfl) ⟨Nat.le_of_ble_eq_true rfl, Nat.le_of_ble_eq_true rfl⟩ dX3_end_67 ?_
            exact rd_iret hx hb hrt hlk dX3_end_70 (by rw [endV, if_pos (by omega), if_neg (by omega)])
          · refine lv_iload_n (pc := 49) hx hb dX3_end_49 rfl (lv_at hl 1 rfl) ?_
            refine lv_iload_n (pc := 50) hx hb dX3_end_50 rfl (lv_at hl 2 rfl) ?_
            refine z_bipush (pc := 51) hx hb dX3_end_51 (by decide) ?_
            refine lv_iload_n (pc := 53) hx hb dX3_end_53 rfl (lv_at hl 3 rfl) ?_
            refine z_isub (pc := 54) hx hb dX3_end_54 ?_
            refine rd_S (pc := 55) hx hb hml hown hT hK (c_X3_lowEnd D cI cJ l (x) (y) ((100 - t)) x.toNat y.toNat (by omega) (by omega) (by omega)) ca_X3_lowEnd tw_302 va_Pnil ⟨Nat.le_of_ble_eq_true rfl, Nat.le_of_ble_eq_true rfl⟩ rfl hl.1 (As := [.int (zi (x)), .int (zi (y)), .int (zi ((100 - t)))]) (rest := []) rfl (Nat.le_of_ble_eq_true rfl) ⟨Nat.le_of_ble_eq_true rfl, Nat.le_of_ble_eq_true rfl⟩ dX3_end_55 ?_
            refine lv_goto (tgt := 70) (pc := 58) hx hb dX3_end_58 (by decide) ?_
            exact rd_iret hx hb hrt hlk dX3_end_70 (by rw [endV, if_pos (by omega), if_pos (by omega)])
        · refine z_sipush (pc := 40) hx hb dX3_end_40 (by decide) ?_
          exact rd_iret hx hb hrt hlk dX3_end_43 (by rw [endV, if_neg (by omega)])
