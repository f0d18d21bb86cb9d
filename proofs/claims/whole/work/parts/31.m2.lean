set_option maxHeartbeats 4000000 in
set_option maxRecDepth 100000 in
theorem c_X4_step (D : va_G) (cI cJ : ClassId) (l : Launch) (ad : Nat → Nat) (n : Int) (st hr ca sp : Nat → Int) (k : Int) (ts th : Nat → Int) (pr hc lu ll up lo : Int) (fr rr hv : Nat → Int) (hV : VT k ts th sp pr hc) (a : Int) (r_a : -2147483648 ≤ a ∧ a ≤ 2147483647) (b : Int) (r_b : -2147483648 ≤ b ∧ b ≤ 2147483647) : WR D cI cJ l yX4_step cX4_step 3 (some .int) 2 45 [.ref (ad 0), .int (zi (a)), .int (zi (b))] (wM ad cI n st hr ca sp k ts th pr hc lu ll up lo fr rr hv) (fun v' ws' => ∃ x : Int × Int × (Nat → Int) × (Nat → Int), x = stepS k ts th a b ∧ v' = .int (zi x.1) ∧ ws' = (wM ad cI n st hr ca sp x.2.1 x.2.2.1 x.2.2.2 pr hc lu ll up lo fr rr hv)) := by
  refine WR.of (by decide) (Nat.le_of_ble_eq_true rfl) ?_
  intro p e s m args below meth c hx hb hrt hml hown hT hlk hK hP hD hS ls hl
  replace hl : lv_has ls 3 [(0, .ref (ad 0)), (1, .int (zi (a))), (2, .int (zi (b)))] := hl
  obtain ⟨hk, hts, hth, ht1, hsp, hpr, hhc⟩ := id hV
  refine lv_iload_n (pc := 0) hx hb dX4_step_0 rfl (lv_at hl 1 rfl) ?_
  refine rd_S (pc := 1) hx hb hml hown hT hK (c_X4_isStress D cI cJ l (a) (by omega)) ca_X4_isStress tw_396 va_Pnil ⟨Nat.le_of_ble_eq_true rfl, Nat.le_of_ble_eq_true rfl⟩ rfl hl.1 (As := [.int (zi (a))]) (rest := []) rfl (Nat.le_of_ble_eq_true rfl) ⟨Nat.le_of_ble_eq_true rfl, Nat.le_of_ble_eq_true rfl⟩ dX4_step_1 ?_
  refine z_ifB_eq (tgt := 19) (pc := 4) hx hb dX4_step_4 (by decide) (fun c_1 => ?_) (fun c_1 => ?_)
  · refine z_sipush (pc := 19) hx hb dX4_step_19 (by decide) ?_
    exact wr_iret hx hb hrt hlk dX4_step_22 hP hS (⟨(-1002, k, ts, th), by rw [stepS, if_neg (by omega)], rfl, rfl⟩)
  · refine lv_iload_n (pc := 7) hx hb dX4_step_7 rfl (lv_at hl 2 rfl) ?_
    refine z_i2l (pc := 8) hx hb (by omega) dX4_step_8 ?_
    refine z_lconst1 (pc := 9) hx hb dX4_step_9 ?_
    refine z_ldc2 (pc := 10) hx hb (500) hown (hT _ tw_403) (by decide) dX4_step_10 ?_
    refine rd_S (pc := 13) hx hb hml hown hT hK (c_X4_in D cI cJ l (b) (by omega) (1) (by omega) (500) (by omega)) ca_X4_in tw_400 va_Pnil ⟨Nat.le_of_ble_eq_true rfl, Nat.le_of_ble_eq_true rfl⟩ rfl hl.1 (As := [.long (zj (b)), .long (zj (1)), .long (zj (500))]) (rest := []) rfl (Nat.le_of_ble_eq_true rfl) ⟨Nat.le_of_ble_eq_true rfl, Nat.le_of_ble_eq_true rfl⟩ dX4_step_13 ?_
    refine z_ifB_ne (tgt := 23) (pc := 16) hx hb dX4_step_16 (by decide) (fun c_2 => ?_) (fun c_2 => ?_)
    · refine lv_aload_n (pc := 23) hx hb dX4_step_23 rfl (lv_at hl 0 rfl) ?_
      refine va_get (D := D) (cl := vwCl) (ci := 4) (v := .int (zi (k))) (C := RX4) (T := TX4) (N := 17) (pc := 24) hx hb hT inT4 hown hK.1 hP 0 rfl rfl 5 (by decide) (hT _ tw_342) (fun _ h9 => h9) rfl dX4_step_24 ?_
      refine z_bipush (pc := 27) hx hb dX4_step_27 (by decide) ?_
      refine z_icmp_ne (tgt := 36) (pc := 29) hx hb dX4_step_29 (by decide) (by omega) (by omega) (fun c_3 => ?_) (fun c_3 => ?_)
      · refine lv_aload_n (pc := 36) hx hb dX4_step_36 rfl (lv_at hl 0 rfl) ?_
        refine va_get (D := D) (cl := vwCl) (ci := 4) (v := .ref (ad 5)) (C := RX4) (T := TX4) (N := 17) (pc := 37) hx hb hT inT4 hown hK.1 hP 0 rfl rfl 6 (by decide) (hT _ tw_343) (fun _ h9 => h9) rfl dX4_step_37 ?_
        refine lv_aload_n (pc := 40) hx hb dX4_step_40 rfl (lv_at hl 0 rfl) ?_
        refine va_get (D := D) (cl := vwCl) (ci := 4) (v := .int (zi (k))) (C := RX4) (T := TX4) (N := 17) (pc := 41) hx hb hT inT4 hown hK.1 hP 0 rfl rfl 5 (by decide) (hT _ tw_342) (fun _ h9 => h9) rfl dX4_step_41 ?_
        refine lv_iload_n (pc := 44) hx hb dX4_step_44 rfl (lv_at hl 1 rfl) ?_
        refine z_iast (pc := 45) hx hb hK hP hD hS 5 (k.toNat) (f := ts) (x := a) rfl (by omega) (by omega) (by omega) dX4_step_45 (fun H locs hP hD hS => ?_)
        replace hP : va_P D vwCl (wM ad cI n st hr ca sp k (uZ ts (k.toNat) (a)) th pr hc lu ll up lo fr rr hv) H := hP
        replace hD : va_D (inW (wM ad cI n st hr ca sp k ts th pr hc lu ll up lo fr rr hv)) (wM ad cI n st hr ca sp k (uZ ts (k.toNat) (a)) th pr hc lu ll up lo fr rr hv) := hD
        refine lv_aload_n (pc := 46) hx hb dX4_step_46 rfl (lv_at hl 0 rfl) ?_
        refine va_get (D := D) (cl := vwCl) (ci := 4) (v := .ref (ad 6)) (C := RX4) (T := TX4) (N := 17) (pc := 47) hx hb hT inT4 hown hK.1 hP 0 rfl rfl 7 (by decide) (hT _ tw_344) (fun _ h9 => h9) rfl dX4_step_47 ?_
        refine lv_aload_n (pc := 50) hx hb dX4_step_50 rfl (lv_at hl 0 rfl) ?_
        refine va_get (D := D) (cl := vwCl) (ci := 4) (v := .int (zi (k))) (C := RX4) (T := TX4) (N := 17) (pc := 51) hx hb hT inT4 hown hK.1 hP 0 rfl rfl 5 (by decide) (hT _ tw_342) (fun _ h9 => h9) rfl dX4_step_51 ?_
        refine lv_iload_n (pc := 54) hx hb dX4_step_54 rfl (lv_at hl 2 rfl) ?_
        refine z_iast (pc := 55) hx hb hK hP hD hS 6 (k.toNat) (f := th) (x := b) rfl (by omega) (by omega) (by omega) dX4_step_55 (fun H locs hP hD hS => ?_)
        replace hP : va_P D vwCl (wM ad cI n st hr ca sp k (uZ ts (k.toNat) (a)) (uZ th (k.toNat) (b)) pr hc lu ll up lo fr rr hv) H := hP
        replace hD : va_D (inW (wM ad cI n st hr ca sp k ts th pr hc lu ll up lo fr rr hv)) (wM ad cI n st hr ca sp k (uZ ts (k.toNat) (a)) (uZ th (k.toNat) (b)) pr hc lu ll up lo fr rr hv) := hD
        refine lv_aload_n (pc := 56) hx hb dX4_step_56 rfl (lv_at hl 0 rfl) ?_
        refine lv_dup (pc := 57) hx hb dX4_step_57 rfl ?_
        refine va_get (D := D) (cl := vwCl) (ci := 4) (v := .int (zi (k))) (C := RX4) (T := TX4) (N := 17) (pc := 58) hx hb hT inT4 hown hK.1 hP 0 rfl rfl 5 (by decide) (hT _ tw_342) (fun _ h9 => h9) rfl dX4_step_58 ?_
        refine z_iconst (pc := 61) hx hb dX4_step_61 ?_
        refine z_iadd (pc := 62) hx hb dX4_step_62 ?_
        refine va_put (D := D) (cl := vwCl) (ci := 4) (v := .int (zi ((k + 1)))) (ty := .int) (C := RX4) (T := TX4) (N := 17) (pc := 63) hx hb hT inT4 tyX4 tyX4_ok nmX4 hown hK.1 hP hD hS 0 rfl rfl 5 (by decide) (hT _ tw_342) (fun _ h9 => h9) rfl (by decide +kernel) rfl rfl (Nat.le_of_ble_eq_true rfl) dX4_step_63 (fun H locs hP hD hS => ?_)
        replace hP : va_P D vwCl (wM ad cI n st hr ca sp ((k + 1)) (uZ ts (k.toNat) (a)) (uZ th (k.toNat) (b)) pr hc lu ll up lo fr rr hv) H := hP
        replace hD : va_D (inW (wM ad cI n st hr ca sp k ts th pr hc lu ll up lo fr rr hv)) (wM ad cI n st hr ca sp ((k + 1)) (uZ ts (k.toNat) (a)) (uZ th (k.toNat) (b)) pr hc lu ll up lo fr rr hv) := hD
        refine lv_aload_n (pc := 66) hx hb dX4_step_66 rfl (lv_at hl 0 rfl) ?_
        refine va_get (D := D) (cl := vwCl) (ci := 4) (v := .int (zi ((k + 1)))) (C := RX4) (T := TX4) (N := 17) (pc := 67) hx hb hT inT4 hown hK.1 hP 0 rfl rfl 5 (by decide) (hT _ tw_342) (fun _ h9 => h9) rfl dX4_step_67 ?_
        exact wr_iret hx hb hrt hlk dX4_step_70 hP hS (⟨(k + 1, k + 1, uZ ts k.toNat a, uZ th k.toNat b), by rw [stepS, if_pos (by omega), if_pos (by omega)], rfl, rfl⟩)
      · refine z_sipush (pc := 32) hx hb dX4_step_32 (by decide) ?_
        exact wr_iret hx hb hrt hlk dX4_step_35 hP hS (⟨(-1004, k, ts, th), by rw [stepS, if_pos (by omega), if_neg (by omega)], rfl, rfl⟩)
    · refine z_sipush (pc := 19) hx hb dX4_step_19 (by decide) ?_
      exact wr_iret hx hb hrt hlk dX4_step_22 hP hS (⟨(-1002, k, ts, th), by rw [stepS, if_neg (by omega)], rfl, rfl⟩)

set_option maxHeartbeats 4000000 in
set_option maxRecDepth 100000 in
theorem c_X4_clear (D : va_G) (cI cJ : ClassId) (l : Launch) (ad : Nat → Nat) (n : Int) (st hr ca sp : Nat → Int) (k : Int) (ts th : Nat → Int) (pr hc lu ll up lo : Int) (fr rr hv : Nat → Int)  : WR D cI cJ l yX4_clear cX4_clear 2 (some .int) 0 0 [.ref (ad 0)] (wM ad cI n st hr ca sp k ts th pr hc lu ll up lo fr rr hv) (fun v' ws' => v' = .int (zi k) ∧ ws' = (wM ad cI n st hr ca sp 0 ts th pr hc lu ll up lo fr rr hv)) := by
  refine WR.of (by decide) (Nat.le_of_ble_eq_true rfl) ?_
  intro p e s m args below meth c hx hb hrt hml hown hT hlk hK hP hD hS ls hl
  replace hl : lv_has ls 2 [(0, .ref (ad 0))] := hl
  refine lv_aload_n (pc := 0) hx hb dX4_clear_0 rfl (lv_at hl 0 rfl) ?_
  refine va_get (D := D) (cl := vwCl) (ci := 4) (v := .int (zi (k))) (C := RX4) (T := TX4) (N := 17) (pc := 1) hx hb hT inT4 hown hK.1 hP 0 rfl rfl 5 (by decide) (hT _ tw_342) (fun _ h9 => h9) rfl dX4_clear_1 ?_
  refine lv_istore_n (lv' := [(1, .int (zi (k))), (0, .ref (ad 0))]) (pc := 4) hx hb dX4_clear_4 rfl hl (by decide) rfl (fun ls hl => ?_)
  refine lv_aload_n (pc := 5) hx hb dX4_clear_5 rfl (lv_at hl 1 rfl) ?_
  refine z_iconst (pc := 6) hx hb dX4_clear_6 ?_
  refine va_put (D := D) (cl := vwCl) (ci := 4) (v := .int (zi (0))) (ty := .int) (C := RX4) (T := TX4) (N := 17) (pc := 7) hx hb hT inT4 tyX4 tyX4_ok nmX4 hown hK.1 hP hD hS 0 rfl rfl 5 (by decide) (hT _ tw_342) (fun _ h9 => h9) rfl (by decide +kernel) rfl rfl (Nat.le_of_ble_eq_true rfl) dX4_clear_7 (fun H locs hP hD hS => ?_)
  replace hP : va_P D vwCl (wM ad cI n st hr ca sp 0 ts th pr hc lu ll up lo fr rr hv) H := hP
  replace hD : va_D (inW (wM ad cI n st hr ca sp k ts th pr hc lu ll up lo fr rr hv)) (wM ad cI n st hr ca sp 0 ts th pr hc lu ll up lo fr rr hv) := hD
  refine lv_iload_n (pc := 10) hx hb dX4_clear_10 rfl (lv_at hl 0 rfl) ?_
  exact wr_iret hx hb hrt hlk dX4_clear_11 hP hS (⟨rfl, rfl⟩)

set_option maxHeartbeats 4000000 in
set_option maxRecDepth 100000 in
theorem c_X4_used (D : va_G) (cI cJ : ClassId) (l : Launch) (ad : Nat → Nat) (n : Int) (st hr ca sp : Nat → Int) (k : Int) (ts th : Nat → Int) (pr hc lu ll up lo : Int) (fr rr hv : Nat → Int) (hV : VT k ts th sp pr hc) (f : Int) (r_f : -2147483648 ≤ f ∧ f ≤ 2147483647) : RD D cI cJ l yX4_used cX4_used 4 (some .int) 1 25 [.ref (ad 0), .int (zi (f))] (wM ad cI n st hr ca sp k ts th pr hc lu ll up lo fr rr hv) (.int (zi (usedV k ts th sp f))) := by
  refine RD.of (by decide) (Nat.le_of_ble_eq_true rfl) ?_
  intro p e s m args below meth c hx hb hrt hml hown hT hlk hK hP ls hl
  replace hl : lv_has ls 4 [(0, .ref (ad 0)), (1, .int (zi (f)))] := hl
  obtain ⟨hk, hts, hth, ht1, hsp, hpr, hhc⟩ := id hV
  have loop : ∀ u : Nat, u ≤ k.toNat → ∀ (z1 z2 : Int), (z1 = cUs ts th sp u) → (z2 = (u : Int)) → (1 ≤ f ∧ f ≤ 100000) → ∀ ls : Array Slot, lv_has ls 4 [(0, .ref (ad 0)), (1, .int (zi (f))), (2, .int (zi (z1))), (3, .int (zi (z2)))] → W p l e (RM 1 25) s m args below meth c s.heap [] 0 0 (MQ below (QR (.int (zi (usedV k ts th sp f))) s.heap) args s 0 0 (fun _ => False)) (F0 m 20 ls []) := by
    refine lp_up (fun u => ∀ (z1 z2 : Int), (z1 = cUs ts th sp u) → (z2 = (u : Int)) → (1 ≤ f ∧ f ≤ 100000) → ∀ ls : Array Slot, lv_has ls 4 [(0, .ref (ad 0)), (1, .int (zi (f))), (2, .int (zi (z1))), (3, .int (zi (z2)))] → W p l e (RM 1 25) s m args below meth c s.heap [] 0 0 (MQ below (QR (.int (zi (usedV k ts th sp f))) s.heap) args s 0 0 (fun _ => False)) (F0 m 20 ls [])) (k.toNat) ?_ ?_
    · intro z1 z2 e1 e2 e3 ls hl
      have hcu := cUs_rng hts hth hsp k.toNat
      refine lv_iload_n (pc := 20) hx hb dX4_used_20 rfl (lv_at hl 3 rfl) ?_
      refine lv_aload_n (pc := 21) hx hb dX4_used_21 rfl (lv_at hl 0 rfl) ?_
      refine va_get (D := D) (cl := vwCl) (ci := 4) (v := .int (zi (k))) (C := RX4) (T := TX4) (N := 17) (pc := 22) hx hb hT inT4 hown hK.1 hP 0 rfl rfl 5 (by decide) (hT _ tw_342) (fun _ h9 => h9) rfl dX4_used_22 ?_
      refine z_icmp_ge (tgt := 58) (pc := 25) hx hb dX4_used_25 (by decide) (by omega) (by omega) (fun c_1 => ?_) (fun c_1 => absurd c_1 (by omega))
      refine lv_iload_n (pc := 58) hx hb dX4_used_58 rfl (lv_at hl 2 rfl) ?_
      refine lv_iload_n (pc := 59) hx hb dX4_used_59 rfl (lv_at hl 1 rfl) ?_
      refine z_idiv (pc := 60) hx hb (by omega) dX4_used_60 ?_
      exact rd_iret hx hb hrt hlk dX4_used_61 (by rw [usedV, if_pos e3, e1])
    · intro u hu ih z1 z2 e1 e2 e3 ls hl
      refine lv_iload_n (pc := 20) hx hb dX4_used_20 rfl (lv_at hl 3 rfl) ?_
      refine lv_aload_n (pc := 21) hx hb dX4_used_21 rfl (lv_at hl 0 rfl) ?_
      refine va_get (D := D) (cl := vwCl) (ci := 4) (v := .int (zi (k))) (C := RX4) (T := TX4) (N := 17) (pc := 22) hx hb hT inT4 hown hK.1 hP 0 rfl rfl 5 (by decide) (hT _ tw_342) (fun _ h9 => h9) rfl dX4_used_22 ?_
      refine z_icmp_ge (tgt := 58) (pc := 25) hx hb dX4_used_25 (by decide) (by omega) (by omega) (fun c_2 => absurd c_2 (by omega)) (fun c_2 => ?_)
      refine lv_iload_n (pc := 28) hx hb dX4_used_28 rfl (lv_at hl 2 rfl) ?_
      refine lv_aload_n (pc := 29) hx hb dX4_used_29 rfl (lv_at hl 0 rfl) ?_
      refine va_get (D := D) (cl := vwCl) (ci := 4) (v := .ref (ad 6)) (C := RX4) (T := TX4) (N := 17) (pc := 30) hx hb hT inT4 hown hK.1 hP 0 rfl rfl 7 (by decide) (hT _ tw_344) (fun _ h9 => h9) rfl dX4_used_30 ?_
      refine lv_iload_n (pc := 33) hx hb dX4_used_33 rfl (lv_at hl 3 rfl) ?_
      refine z_iald (pc := 34) hx hb hK hP 6 (u) (f := th) rfl (by omega) (by omega) (by omega) dX4_used_34 ?_
      have r_3 := hth (u)
      refine lv_aload_n (pc := 35) hx hb dX4_used_35 rfl (lv_at hl 0 rfl) ?_
      refine va_get (D := D) (cl := vwCl) (ci := 4) (v := .ref (ad 4)) (C := RX4) (T := TX4) (N := 17) (pc := 36) hx hb hT inT4 hown hK.1 hP 0 rfl rfl 4 (by decide) (hT _ tw_341) (fun _ h9 => h9) rfl dX4_used_36 ?_
      refine lv_aload_n (pc := 39) hx hb dX4_used_39 rfl (lv_at hl 0 rfl) ?_
      refine va_get (D := D) (cl := vwCl) (ci := 4) (v := .ref (ad 5)) (C := RX4) (T := TX4) (N := 17) (pc := 40) hx hb hT inT4 hown hK.1 hP 0 rfl rfl 6 (by decide) (hT _ tw_343) (fun _ h9 => h9) rfl dX4_used_40 ?_
      refine lv_iload_n (pc := 43) hx hb dX4_used_43 rfl (lv_at hl 3 rfl) ?_
      refine z_iald (pc := 44) hx hb hK hP 5 (u) (f := ts) rfl (by omega) (by omega) (by omega) dX4_used_44 ?_
      have r_4 := hts (u)
      refine z_iald (pc := 45) hx hb hK hP 4 (((ts (u))).toNat) (f := sp) rfl (by omega) (by omega) (by omega) dX4_used_45 ?_
      have r_5 := hsp (((ts (u))).toNat) (by omega)
      refine z_imul (pc := 46) hx hb dX4_used_46 ?_
      refine z_bipush (pc := 47) hx hb dX4_used_47 (by decide) ?_
      refine z_imul (pc := 49) hx hb dX4_used_49 ?_
      refine z_iadd (pc := 50) hx hb dX4_used_50 ?_
      refine lv_istore_n (lv' := [(2, .int (zi ((z1 + (((th (u)) * (sp (((ts (u))).toNat))) * 10))))), (0, .ref (ad 0)), (1, .int (zi (f))), (3, .int (zi (z2)))]) (pc := 51) hx hb dX4_used_51 rfl hl (by decide) rfl (fun ls hl => ?_)
      refine lv_iinc (v := zi (z2 + 1)) (lv' := [(3, .int (zi ((z2 + 1)))), (2, .int (zi ((z1 + (((th (u)) * (sp (((ts (u))).toNat))) * 10))))), (0, .ref (ad 0)), (1, .int (zi (f)))]) (pc := 52) hx hb dX4_used_52 hl (k := 3) rfl (zi_add _ _) (by decide) rfl (fun ls hl => ?_)
      refine lv_goto (tgt := 20) (pc := 55) hx hb dX4_used_55 (by decide) ?_
      exact ih  _ _ (by rw [e1]; rfl) (by rw [e2]; rfl) (e3) ls (lv_sub hl [2, 3, 1, 0] rfl)
  refine lv_iload_n (pc := 0) hx hb dX4_used_0 rfl (lv_at hl 1 rfl) ?_
  refine z_i2l (pc := 1) hx hb (by omega) dX4_used_1 ?_
  refine z_lconst1 (pc := 2) hx hb dX4_used_2 ?_
  refine z_ldc2 (pc := 3) hx hb (100000) hown (hT _ tw_523) (by decide) dX4_used_3 ?_
  refine rd_S (pc := 6) hx hb hml hown hT hK (c_X4_in D cI cJ l (f) (by omega) (1) (by omega) (100000) (by omega)) ca_X4_in tw_400 va_Pnil ⟨Nat.le_of_ble_eq_true rfl, Nat.le_of_ble_eq_true rfl⟩ rfl hl.1 (As := [.long (zj (f)), .long (zj (1)), .long (zj (100000))]) (rest := []) rfl (Nat.le_of_ble_eq_true rfl) ⟨Nat.le_of_ble_eq_true rfl, Nat.le_of_ble_eq_true rfl⟩ dX4_used_6 ?_
  refine z_ifB_ne (tgt := 16) (pc := 9) hx hb dX4_used_9 (by decide) (fun c_6 => ?_) (fun c_6 => ?_)
  · refine z_iconst (pc := 16) hx hb dX4_used_16 ?_
    refine lv_istore_n (lv' := [(2, .int (zi (0))), (0, .ref (ad 0)), (1, .int (zi (f)))]) (pc := 17) hx hb dX4_used_17 rfl hl (by decide) rfl (fun ls hl => ?_)
    refine z_iconst (pc := 18) hx hb dX4_used_18 ?_
    refine lv_istore_n (lv' := [(3, .int (zi (0))), (2, .int (zi (0))), (0, .ref (ad 0)), (1, .int (zi (f)))]) (pc := 19) hx hb dX4_used_19 rfl hl (by decide) rfl (fun ls hl => ?_)
    exact loop 0 (by omega) _ _ (by rfl) (by rfl) (by omega) ls (lv_sub hl [2, 3, 1, 0] rfl)
  · refine z_sipush (pc := 12) hx hb dX4_used_12 (by decide) ?_
    exact rd_iret hx hb hrt hlk dX4_used_15 (by rw [usedV, if_neg (by omega)])

theorem ceil_eq {g s v : Int} (hs : 0 < s) (h1 : v * s < g) (h2 : g ≤ (v + 1) * s) : (g + s - 1) / s = v + 1 := by
  have e : (v + 1) * s = v * s + s := by rw [Int.add_mul, Int.one_mul]
  refine Int.le_antisymm ?_ ?_
  · have : (g + s - 1) / s < v + 1 + 1 := Int.ediv_lt_of_lt_mul hs (by rw [Int.add_mul, Int.one_mul, e]; omega)
    omega
  · exact Int.le_ediv_of_mul_le hs (by rw [e]; omega)

set_option maxHeartbeats 4000000 in
set_option maxRecDepth 100000 in
theorem c_X4_fails (D : va_G) (cI cJ : ClassId) (l : Launch) (ad : Nat → Nat) (n : Int) (st hr ca sp : Nat → Int) (k : Int) (ts th : Nat → Int) (pr hc lu ll up lo : Int) (fr rr hv : Nat → Int) (hV : VT k ts th sp pr hc) (f : Int) (r_f : -2147483648 ≤ f ∧ f ≤ 2147483647) : RD D cI cJ l yX4_fails cX4_fails 6 (some .int) 1 25 [.ref (ad 0), .int (zi (f))] (wM ad cI n st hr ca sp k ts th pr hc lu ll up lo fr rr hv) (.int (zi (failsV k ts th sp f))) := by
  refine RD.of (by decide) (Nat.le_of_ble_eq_true rfl) ?_
  intro p e s m args below meth c hx hb hrt hml hown hT hlk hK hP ls hl
  replace hl : lv_has ls 6 [(0, .ref (ad 0)), (1, .int (zi (f)))] := hl
  obtain ⟨hk, hts, hth, ht1, hsp, hpr, hhc⟩ := id hV
  have inner : ∀ (z4 tb hb0 : Int) (u : Nat), z4 = (u : Int) → u < k.toNat → (1 ≤ f ∧ f ≤ 100000) → (0 ≤ tb ∧ tb < 10 * f) → (0 ≤ hb0 ∧ hb0 ≤ 500 * (u : Int)) → failC k.toNat ts th sp (k.toNat - u) (10 * f - tb) hb0 = failC k.toNat ts th sp k.toNat (f * 10) 0 → (∀ z2 z3 : Int, failC k.toNat ts th sp (k.toNat - (u + 1)) (10 * f - z3) z2 = failC k.toNat ts th sp k.toNat (f * 10) 0 → (0 ≤ z3 ∧ z3 < 10 * f) → (0 ≤ z2 ∧ z2 ≤ 500 * ((u + 1 : Nat) : Int)) → ∀ ls : Array Slot, lv_has ls 6 [(0, .ref (ad 0)), (1, .int (zi (f))), (2, .int (zi (z2))), (3, .int (zi (z3))), (4, .int (zi (z4)))] → W p l e (RM 1 25) s m args below meth c s.heap [] 0 0 (MQ below (QR (.int (zi (failsV k ts th sp f))) s.heap) args s 0 0 (fun _ => False)) (F0 m 81 ls [])) → ∀ v : Nat, v ≤ (th u).toNat → ∀ (z2 z3 z5 : Int), (z2 = hb0 + (v : Int)) → (z3 = tb + (v : Int) * sp (ts u).toNat) → (z3 < 10 * f) → (z5 = (v : Int)) → ∀ ls : Array Slot, lv_has ls 6 [(0, .ref (ad 0)), (1, .int (zi (f))), (2, .int (zi (z2))), (3, .int (zi (z3))), (4, .int (zi (z4))), (5, .int (zi (z5)))] → W p l e (RM 1 25) s m args below meth c s.heap [] 0 0 (MQ below (QR (.int (zi (failsV k ts th sp f))) s.heap) args s 0 0 (fun _ => False)) (F0 m 35 ls []) := by
    intro z4 tb hb0 u e7 hu hf htb hhb0 heq hex
    refine lp_up (fun v => ∀ (z2 z3 z5 : Int), (z2 = hb0 + (v : Int)) → (z3 = tb + (v : Int) * sp (ts u).toNat) → (z3 < 10 * f) → (z5 = (v : Int)) → ∀ ls : Array Slot, lv_has ls 6 [(0, .ref (ad 0)), (1, .int (zi (f))), (2, .int (zi (z2))), (3, .int (zi (z3))), (4, .int (zi (z4))), (5, .int (zi (z5)))] → W p l e (RM 1 25) s m args below meth c s.heap [] 0 0 (MQ below (QR (.int (zi (failsV k ts th sp f))) s.heap) args s 0 0 (fun _ => False)) (F0 m 35 ls [])) ((th u).toNat) ?_ ?_
    · intro z2 z3 z5 e2 e3 e4 e5 ls hl
      have hts1 := hts u
      have hth1 := hth u
      have hsp1 := hsp (ts u).toNat (by omega)
      have hvs : 0 ≤ ((th u).toNat : Int) * sp (ts u).toNat := Int.mul_nonneg (by omega) (by omega)
      have ej : k.toNat - u = (k.toNat - (u + 1)) + 1 := by omega
      have ek : k.toNat - (k.toNat - (u + 1) + 1) = u := by omega
      refine lv_iload (pc := 35) hx hb dX4_fails_35 (lv_at hl 5 rfl) ?_
      refine lv_aload_n (pc := 37) hx hb dX4_fails_37 rfl (lv_at hl 0 rfl) ?_
      refine va_get (D := D) (cl := vwCl) (ci := 4) (v := .ref (ad 6)) (C := RX4) (T := TX4) (N := 17) (pc := 38) hx hb hT inT4 hown hK.1 hP 0 rfl rfl 7 (by decide) (hT _ tw_344) (fun _ h9 => h9) rfl dX4_fails_38 ?_
      refine lv_iload (pc := 41) hx hb dX4_fails_41 (lv_at hl 4 rfl) ?_
      refine z_iald (pc := 43) hx hb hK hP 6 (u) (f := th) rfl (by omega) (by omega) (by omega) dX4_fails_43 ?_
      have r_1 := hth (u)
      refine z_icmp_ge (tgt := 81) (pc := 44) hx hb dX4_fails_44 (by decide) (by omega) (by omega) (fun c_2 => ?_) (fun c_2 => absurd c_2 (by omega))
      rw [ej, failC, ek, if_neg (by rw [show ((th u).toNat : Int) = th u by omega] at e3; omega)] at heq
      rw [show ((th u).toNat : Int) = th u by omega] at e3 e2 hvs
      exact hex _ _ (by rw [← heq, e3, e2]; congr 1; omega) (by omega) (by omega) ls (lv_sub hl [0, 1, 2, 3, 4] rfl)
    · intro v hv ih z2 z3 z5 e2 e3 e4 e5 ls hl
      have hts1 := hts u
      have hth1 := hth u
      have hsp1 := hsp (ts u).toNat (by omega)
      have hvs : 0 ≤ (v : Int) * sp (ts u).toNat := Int.mul_nonneg (by omega) (by omega)
      have ej : k.toNat - u = (k.toNat - (u + 1)) + 1 := by omega
      have ek : k.toNat - (k.toNat - (u + 1) + 1) = u := by omega
      refine lv_iload (pc := 35) hx hb dX4_fails_35 (lv_at hl 5 rfl) ?_
      refine lv_aload_n (pc := 37) hx hb dX4_fails_37 rfl (lv_at hl 0 rfl) ?_
      refine va_get (D := D) (cl := vwCl) (ci := 4) (v := .ref (ad 6)) (C := RX4) (T := TX4) (N := 17) (pc := 38) hx hb hT inT4 hown hK.1 hP 0 rfl rfl 7 (by decide) (hT _ tw_344) (fun _ h9 => h9) rfl dX4_fails_38 ?_
      refine lv_iload (pc := 41) hx hb dX4_fails_41 (lv_at hl 4 rfl) ?_
      refine z_iald (pc := 43) hx hb hK hP 6 (u) (f := th) rfl (by omega) (by omega) (by omega) dX4_fails_43 ?_
      have r_3 := hth (u)
      refine z_icmp_ge (tgt := 81) (pc := 44) hx hb dX4_fails_44 (by decide) (by omega) (by omega) (fun c_4 => absurd c_4 (by omega)) (fun c_4 => ?_)
      refine lv_iinc (v := zi (z2 + 1)) (lv' := [(2, .int (zi ((z2 + 1)))), (0, .ref (ad 0)), (1, .int (zi (f))), (3, .int (zi (z3))), (4, .int (zi (z4))), (5, .int (zi (z5)))]) (pc := 47) hx hb dX4_fails_47 hl (k := 2) rfl (zi_add _ _) (by decide) rfl (fun ls hl => ?_)
      refine lv_iload_n (pc := 50) hx hb dX4_fails_50 rfl (lv_at hl 3 rfl) ?_
      refine lv_aload_n (pc := 51) hx hb dX4_fails_51 rfl (lv_at hl 1 rfl) ?_
      refine va_get (D := D) (cl := vwCl) (ci := 4) (v := .ref (ad 4)) (C := RX4) (T := TX4) (N := 17) (pc := 52) hx hb hT inT4 hown hK.1 hP 0 rfl rfl 4 (by decide) (hT _ tw_341) (fun _ h9 => h9) rfl dX4_fails_52 ?_
      refine lv_aload_n (pc := 55) hx hb dX4_fails_55 rfl (lv_at hl 1 rfl) ?_
      refine va_get (D := D) (cl := vwCl) (ci := 4) (v := .ref (ad 5)) (C := RX4) (T := TX4) (N := 17) (pc := 56) hx hb hT inT4 hown hK.1 hP 0 rfl rfl 6 (by decide) (hT _ tw_343) (fun _ h9 => h9) rfl dX4_fails_56 ?_
      refine lv_iload (pc := 59) hx hb dX4_fails_59 (lv_at hl 4 rfl) ?_
      refine z_iald (pc := 61) hx hb hK hP 5 (u) (f := ts) rfl (by omega) (by omega) (by omega) dX4_fails_61 ?_
      have r_5 := hts (u)
      refine z_iald (pc := 62) hx hb hK hP 4 (((ts (u))).toNat) (f := sp) rfl (by omega) (by omega) (by omega) dX4_fails_62 ?_
      have r_6 := hsp (((ts (u))).toNat) (by omega)
      refine z_iadd (pc := 63) hx hb dX4_fails_63 ?_
      refine lv_istore_n (lv' := [(3, .int (zi ((z3 + (sp (((ts (u))).toNat)))))), (2, .int (zi ((z2 + 1)))), (0, .ref (ad 0)), (1, .int (zi (f))), (4, .int (zi (z4))), (5, .int (zi (z5)))]) (pc := 64) hx hb dX4_fails_64 rfl hl (by decide) rfl (fun ls hl => ?_)
      refine lv_iload_n (pc := 65) hx hb dX4_fails_65 rfl (lv_at hl 0 rfl) ?_
      refine z_bipush (pc := 66) hx hb dX4_fails_66 (by decide) ?_
      refine lv_iload_n (pc := 68) hx hb dX4_fails_68 rfl (lv_at hl 3 rfl) ?_
      refine z_imul (pc := 69) hx hb dX4_fails_69 ?_
      refine z_icmp_lt (tgt := 75) (pc := 70) hx hb dX4_fails_70 (by decide) (by omega) (by omega) (fun c_7 => ?_) (fun c_7 => ?_)
      · refine lv_iinc (v := zi (z5 + 1)) (lv' := [(5, .int (zi ((z5 + 1)))), (3, .int (zi ((z3 + (sp (((ts (u))).toNat)))))), (2, .int (zi ((z2 + 1)))), (0, .ref (ad 0)), (1, .int (zi (f))), (4, .int (zi (z4)))]) (pc := 75) hx hb dX4_fails_75 hl (k := 5) rfl (zi_add _ _) (by decide) rfl (fun ls hl => ?_)
        refine lv_goto (tgt := 35) (pc := 78) hx hb dX4_fails_78 (by decide) ?_
        exact ih  _ _ _ (by omega) (by rw [e3, show ((v + 1 : Nat) : Int) = (v : Int) + 1 by omega, Int.add_mul, Int.one_mul]; omega) (by omega) (by omega) ls (lv_sub hl [3, 4, 2, 1, 5, 0] rfl)
      · refine lv_iload_n (pc := 73) hx hb dX4_fails_73 rfl (lv_at hl 1 rfl) ?_
        have hmul : ((v : Int) + 1) * sp (ts u).toNat = (v : Int) * sp (ts u).toNat + sp (ts u).toNat := by rw [Int.add_mul, Int.one_mul]
        have hle : 10 * f - tb ≤ th u * sp (ts u).toNat := Int.le_trans (by omega) (Int.mul_le_mul_of_nonneg_right (show (v : Int) + 1 ≤ th u by omega) (by omega))
        exact rd_iret hx hb hrt hlk dX4_fails_74 (by rw [failsV, if_pos hf, ← heq, ej, failC, ek, if_pos hle, ceil_eq (v := (v : Int)) (by omega) (by omega) (by omega), e2]; congr 1; congr 1; omega)
  have outer : ∀ u : Nat, u ≤ k.toNat → ∀ (z2 z3 z4 : Int), (failC k.toNat ts th sp (k.toNat - u) (10 * f - z3) z2 = failC k.toNat ts th sp k.toNat (f * 10) 0) → (z4 = (u : Int)) → (1 ≤ f ∧ f ≤ 100000) → (0 ≤ z3 ∧ z3 < 10 * f) → (0 ≤ z2 ∧ z2 ≤ 500 * (u : Int)) → ∀ ls : Array Slot, lv_has ls 6 [(0, .ref (ad 0)), (1, .int (zi (f))), (2, .int (zi (z2))), (3, .int (zi (z3))), (4, .int (zi (z4)))] → W p l e (RM 1 25) s m args below meth c s.heap [] 0 0 (MQ below (QR (.int (zi (failsV k ts th sp f))) s.heap) args s 0 0 (fun _ => False)) (F0 m 23 ls []) := by
    refine lp_up (fun u => ∀ (z2 z3 z4 : Int), (failC k.toNat ts th sp (k.toNat - u) (10 * f - z3) z2 = failC k.toNat ts th sp k.toNat (f * 10) 0) → (z4 = (u : Int)) → (1 ≤ f ∧ f ≤ 100000) → (0 ≤ z3 ∧ z3 < 10 * f) → (0 ≤ z2 ∧ z2 ≤ 500 * (u : Int)) → ∀ ls : Array Slot, lv_has ls 6 [(0, .ref (ad 0)), (1, .int (zi (f))), (2, .int (zi (z2))), (3, .int (zi (z3))), (4, .int (zi (z4)))] → W p l e (RM 1 25) s m args below meth c s.heap [] 0 0 (MQ below (QR (.int (zi (failsV k ts th sp f))) s.heap) args s 0 0 (fun _ => False)) (F0 m 23 ls [])) (k.toNat) ?_ ?_
    · intro z2 z3 z4 heq e4 hf e5 e6 ls hl
      refine lv_iload (pc := 23) hx hb dX4_fails_23 (lv_at hl 4 rfl) ?_
      refine lv_aload_n (pc := 25) hx hb dX4_fails_25 rfl (lv_at hl 0 rfl) ?_
      refine va_get (D := D) (cl := vwCl) (ci := 4) (v := .int (zi (k))) (C := RX4) (T := TX4) (N := 17) (pc := 26) hx hb hT inT4 hown hK.1 hP 0 rfl rfl 5 (by decide) (hT _ tw_342) (fun _ h9 => h9) rfl dX4_fails_26 ?_
      refine z_icmp_ge (tgt := 87) (pc := 29) hx hb dX4_fails_29 (by decide) (by omega) (by omega) (fun c_8 => ?_) (fun c_8 => absurd c_8 (by omega))
      refine z_iconst (pc := 87) hx hb dX4_fails_87 ?_
      exact rd_iret hx hb hrt hlk dX4_fails_88 (by rw [failsV, if_pos hf, ← heq, Nat.sub_self, failC])
    · intro u hu ih z2 z3 z4 heq e4 hf e5 e6 ls hl
      refine lv_iload (pc := 23) hx hb dX4_fails_23 (lv_at hl 4 rfl) ?_
      refine lv_aload_n (pc := 25) hx hb dX4_fails_25 rfl (lv_at hl 0 rfl) ?_
      refine va_get (D := D) (cl := vwCl) (ci := 4) (v := .int (zi (k))) (C := RX4) (T := TX4) (N := 17) (pc := 26) hx hb hT inT4 hown hK.1 hP 0 rfl rfl 5 (by decide) (hT _ tw_342) (fun _ h9 => h9) rfl dX4_fails_26 ?_
      refine z_icmp_ge (tgt := 87) (pc := 29) hx hb dX4_fails_29 (by decide) (by omega) (by omega) (fun c_9 => absurd c_9 (by omega)) (fun c_9 => ?_)
      refine z_iconst (pc := 32) hx hb dX4_fails_32 ?_
      refine lv_istore (lv' := [(5, .int (zi (0))), (0, .ref (ad 0)), (1, .int (zi (f))), (2, .int (zi (z2))), (3, .int (zi (z3))), (4, .int (zi (z4)))]) (pc := 33) hx hb dX4_fails_33 hl (by decide) rfl (fun ls hl => ?_)
      refine inner _ _ _ u e4 (by omega) hf e5 e6 heq ?_ 0 (by omega) _ _ _ (by omega) (by simp) (by omega) (by rfl) ls (lv_sub hl [1, 2, 3, 4, 5, 0] rfl)
      intro z2 z3 q1 q2 q3 ls hl
      refine lv_iinc (v := zi (z4 + 1)) (lv' := [(4, .int (zi ((z4 + 1)))), (0, .ref (ad 0)), (1, .int (zi (f))), (2, .int (zi (z2))), (3, .int (zi (z3)))]) (pc := 81) hx hb dX4_fails_81 hl (k := 4) rfl (zi_add _ _) (by decide) rfl (fun ls hl => ?_)
      refine lv_goto (tgt := 23) (pc := 84) hx hb dX4_fails_84 (by decide) ?_
      exact ih  _ _ _ (q1) (by omega) (hf) (q2) (q3) ls (lv_sub hl [1, 2, 3, 4, 0] rfl)
  refine lv_iload_n (pc := 0) hx hb dX4_fails_0 rfl (lv_at hl 1 rfl) ?_
  refine z_i2l (pc := 1) hx hb (by omega) dX4_fails_1 ?_
  refine z_lconst1 (pc := 2) hx hb dX4_fails_2 ?_
  refine z_ldc2 (pc := 3) hx hb (100000) hown (hT _ tw_523) (by decide) dX4_fails_3 ?_
  refine rd_S (pc := 6) hx hb hml hown hT hK (c_X4_in D cI cJ l (f) (by omega) (1) (by omega) (100000) (by omega)) ca_X4_in tw_400 va_Pnil ⟨Nat.le_of_ble_eq_true rfl, Nat.le_of_ble_eq_true rfl⟩ rfl hl.1 (As := [.long (zj (f)), .long (zj (1)), .long (zj (100000))]) (rest := []) rfl (Nat.le_of_ble_eq_true rfl) ⟨Nat.le_of_ble_eq_true rfl, Nat.le_of_ble_eq_true rfl⟩ dX4_fails_6 ?_
  refine z_ifB_ne (tgt := 16) (pc := 9) hx hb dX4_fails_9 (by decide) (fun c_10 => ?_) (fun c_10 => ?_)
  · refine z_iconst (pc := 16) hx hb dX4_fails_16 ?_
    refine lv_istore_n (lv' := [(2, .int (zi (0))), (0, .ref (ad 0)), (1, .int (zi (f)))]) (pc := 17) hx hb dX4_fails_17 rfl hl (by decide) rfl (fun ls hl => ?_)
    refine z_iconst (pc := 18) hx hb dX4_fails_18 ?_
    refine lv_istore_n (lv' := [(3, .int (zi (0))), (2, .int (zi (0))), (0, .ref (ad 0)), (1, .int (zi (f)))]) (pc := 19) hx hb dX4_fails_19 rfl hl (by decide) rfl (fun ls hl => ?_)
    refine z_iconst (pc := 20) hx hb dX4_fails_20 ?_
    refine lv_istore (lv' := [(4, .int (zi (0))), (3, .int (zi (0))), (2, .int (zi (0))), (0, .ref (ad 0)), (1, .int (zi (f)))]) (pc := 21) hx hb dX4_fails_21 hl (by decide) rfl (fun ls hl => ?_)
    exact outer 0 (by omega) _ _ _ (by rw [Nat.sub_zero]; congr 1; omega) (by rfl) (by omega) (by omega) (by omega) ls (lv_sub hl [3, 4, 2, 1, 0] rfl)
  · refine z_sipush (pc := 12) hx hb dX4_fails_12 (by decide) ?_
    exact rd_iret hx hb hrt hlk dX4_fails_15 (by rw [failsV, if_neg (by omega)])

set_option maxHeartbeats 4000000 in
set_option maxRecDepth 100000 in
theorem c_X4_rule (D : va_G) (cI cJ : ClassId) (l : Launch) (ad : Nat → Nat) (n : Int) (st hr ca sp : Nat → Int) (k : Int) (ts th : Nat → Int) (pr hc lu ll up lo : Int) (fr rr hv : Nat → Int) (w : Int) (r_w : -2147483648 ≤ w ∧ w ≤ 2147483647) (v : Int) (r_v : -2147483648 ≤ v ∧ v ≤ 2147483647) : WR D cI cJ l yX4_rule cX4_rule 4 (some .int) 1 25 [.ref (ad 0), .int (zi (w)), .int (zi (v))] (wM ad cI n st hr ca sp k ts th pr hc lu ll up lo fr rr hv) (fun v' ws' => ∃ x : Int × Int × Int, x = ruleS pr hc w v ∧ v' = .int (zi x.1) ∧ ws' = (wM ad cI n st hr ca sp k ts th x.2.1 x.2.2 lu ll up lo fr rr hv)) := by
  refine WR.of (by decide) (Nat.le_of_ble_eq_true rfl) ?_
  intro p e s m args below meth c hx hb hrt hml hown hT hlk hK hP hD hS ls hl
  replace hl : lv_has ls 4 [(0, .ref (ad 0)), (1, .int (zi (w))), (2, .int (zi (v)))] := hl
  refine lv_iload_n (pc := 0) hx hb dX4_rule_0 rfl (lv_at hl 1 rfl) ?_
  refine z_i2l (pc := 1) hx hb (by omega) dX4_rule_1 ?_
  refine z_lconst0 (pc := 2) hx hb dX4_rule_2 ?_
  refine z_lconst1 (pc := 3) hx hb dX4_rule_3 ?_
  refine rd_S (pc := 4) hx hb hml hown hT hK (c_X4_in D cI cJ l (w) (by omega) (0) (by omega) (1) (by omega)) ca_X4_in tw_400 va_Pnil ⟨Nat.le_of_ble_eq_true rfl, Nat.le_of_ble_eq_true rfl⟩ rfl hl.1 (As := [.long (zj (w)), .long (zj (0)), .long (zj (1))]) (rest := []) rfl (Nat.le_of_ble_eq_true rfl) ⟨Nat.le_of_ble_eq_true rfl, Nat.le_of_ble_eq_true rfl⟩ dX4_rule_4 ?_
  refine z_ifB_eq (tgt := 35) (pc := 7) hx hb dX4_rule_7 (by decide) (fun c_1 => ?_) (fun c_1 => ?_)
  · refine z_sipush (pc := 35) hx hb dX4_rule_35 (by decide) ?_
    exact wr_iret hx hb hrt hlk dX4_rule_38 hP hS (⟨(-1002, pr, hc), by first | (exfalso; omega) | (rw [ruleS]; repeat (first | rw [if_pos (by omega)] | rw [if_neg (by omega)])), rfl, rfl⟩)
  · refine lv_iload_n (pc := 10) hx hb dX4_rule_10 rfl (lv_at hl 2 rfl) ?_
    refine z_i2l (pc := 11) hx hb (by omega) dX4_rule_11 ?_
    refine z_iconst (pc := 12) hx hb dX4_rule_12 ?_
    refine lv_iload_n (pc := 13) hx hb dX4_rule_13 rfl (lv_at hl 1 rfl) ?_
    refine z_isub (pc := 14) hx hb dX4_rule_14 ?_
    refine z_i2l (pc := 15) hx hb (by omega) dX4_rule_15 ?_
    refine lv_iload_n (pc := 16) hx hb dX4_rule_16 rfl (lv_at hl 1 rfl) ?_
    refine z_if_ne (tgt := 26) (pc := 17) hx hb dX4_rule_17 (by decide) (by omega) (fun c_2 => ?_) (fun c_2 => ?_)
    · refine z_ldc2 (pc := 26) hx hb (20) hown (hT _ tw_524) (by decide) dX4_rule_26 ?_
      refine rd_S (pc := 29) hx hb hml hown hT hK (c_X4_in D cI cJ l (v) (by omega) ((1 - w)) (by omega) (20) (by omega)) ca_X4_in tw_400 va_Pnil ⟨Nat.le_of_ble_eq_true rfl, Nat.le_of_ble_eq_true rfl⟩ rfl hl.1 (As := [.long (zj (v)), .long (zj ((1 - w))), .long (zj (20))]) (rest := []) rfl (Nat.le_of_ble_eq_true rfl) ⟨Nat.le_of_ble_eq_true rfl, Nat.le_of_ble_eq_true rfl⟩ dX4_rule_29 ?_
      refine z_ifB_ne (tgt := 39) (pc := 32) hx hb dX4_rule_32 (by decide) (fun c_3 => ?_) (fun c_3 => ?_)
      · refine lv_iload_n (pc := 39) hx hb dX4_rule_39 rfl (lv_at hl 1 rfl) ?_
        refine z_if_ne (tgt := 50) (pc := 40) hx hb dX4_rule_40 (by decide) (by omega) (fun c_4 => ?_) (fun c_4 => ?_)
        · refine lv_aload_n (pc := 50) hx hb dX4_rule_50 rfl (lv_at hl 0 rfl) ?_
          refine va_get (D := D) (cl := vwCl) (ci := 4) (v := .int (zi (hc))) (C := RX4) (T := TX4) (N := 17) (pc := 51) hx hb hT inT4 hown hK.1 hP 0 rfl rfl 9 (by decide) (hT _ tw_346) (fun _ h9 => h9) rfl dX4_rule_51 ?_
          refine lv_istore_n (lv' := [(3, .int (zi (hc))), (0, .ref (ad 0)), (1, .int (zi (w))), (2, .int (zi (v)))]) (pc := 54) hx hb dX4_rule_54 rfl hl (by decide) rfl (fun ls hl => ?_)
          refine lv_aload_n (pc := 55) hx hb dX4_rule_55 rfl (lv_at hl 1 rfl) ?_
          refine lv_iload_n (pc := 56) hx hb dX4_rule_56 rfl (lv_at hl 2 rfl) ?_
          refine z_if_ne (tgt := 64) (pc := 57) hx hb dX4_rule_57 (by decide) (by omega) (fun c_5 => ?_) (fun c_5 => ?_)
          · refine lv_aload_n (pc := 64) hx hb dX4_rule_64 rfl (lv_at hl 1 rfl) ?_
            refine va_get (D := D) (cl := vwCl) (ci := 4) (v := .int (zi (pr))) (C := RX4) (T := TX4) (N := 17) (pc := 65) hx hb hT inT4 hown hK.1 hP 0 rfl rfl 8 (by decide) (hT _ tw_345) (fun _ h9 => h9) rfl dX4_rule_65 ?_
            refine va_put (D := D) (cl := vwCl) (ci := 4) (v := .int (zi (pr))) (ty := .int) (C := RX4) (T := TX4) (N := 17) (pc := 68) hx hb hT inT4 tyX4 tyX4_ok nmX4 hown hK.1 hP hD hS 0 rfl rfl 8 (by decide) (hT _ tw_345) (fun _ h9 => h9) rfl (by decide +kernel) rfl rfl (Nat.le_of_ble_eq_true rfl) dX4_rule_68 (fun H locs hP hD hS => ?_)
            replace hP : va_P D vwCl (wM ad cI n st hr ca sp k ts th pr hc lu ll up lo fr rr hv) H := hP
            replace hD : va_D (inW (wM ad cI n st hr ca sp k ts th pr hc lu ll up lo fr rr hv)) (wM ad cI n st hr ca sp k ts th pr hc lu ll up lo fr rr hv) := hD
            refine lv_aload_n (pc := 71) hx hb dX4_rule_71 rfl (lv_at hl 1 rfl) ?_
            refine lv_iload_n (pc := 72) hx hb dX4_rule_72 rfl (lv_at hl 2 rfl) ?_
            refine z_iconst (pc := 73) hx hb dX4_rule_73 ?_
            refine z_icmp_ne (tgt := 81) (pc := 74) hx hb dX4_rule_74 (by decide) (by omega) (by omega) (fun c_6 => ?_) (fun c_6 => ?_)
            · refine lv_aload_n (pc := 81) hx hb dX4_rule_81 rfl (lv_at hl 1 rfl) ?_
              refine va_get (D := D) (cl := vwCl) (ci := 4) (v := .int (zi (hc))) (C := RX4) (T := TX4) (N := 17) (pc := 82) hx hb hT inT4 hown hK.1 hP 0 rfl rfl 9 (by decide) (hT _ tw_346) (fun _ h9 => h9) rfl dX4_rule_82 ?_
              refine va_put (D := D) (cl := vwCl) (ci := 4) (v := .int (zi (hc))) (ty := .int) (C := RX4) (T := TX4) (N := 17) (pc := 85) hx hb hT inT4 tyX4 tyX4_ok nmX4 hown hK.1 hP hD hS 0 rfl rfl 9 (by decide) (hT _ tw_346) (fun _ h9 => h9) rfl (by decide +kernel) rfl rfl (Nat.le_of_ble_eq_true rfl) dX4_rule_85 (fun H locs hP hD hS => ?_)
              replace hP : va_P D vwCl (wM ad cI n st hr ca sp k ts th pr hc lu ll up lo fr rr hv) H := hP
              replace hD : va_D (inW (wM ad cI n st hr ca sp k ts th pr hc lu ll up lo fr rr hv)) (wM ad cI n st hr ca sp k ts th pr hc lu ll up lo fr rr hv) := hD
              refine lv_iload_n (pc := 88) hx hb dX4_rule_88 rfl (lv_at hl 0 rfl) ?_
              exact wr_iret hx hb hrt hlk dX4_rule_89 hP hS (⟨(hc, pr, hc), by first | (exfalso; omega) | (rw [ruleS]; repeat (first | rw [if_pos (by omega)] | rw [if_neg (by omega)])), rfl, rfl⟩)
            · refine lv_iload_n (pc := 77) hx hb dX4_rule_77 rfl (lv_at hl 3 rfl) ?_
              refine lv_goto (tgt := 85) (pc := 78) hx hb dX4_rule_78 (by decide) ?_
              refine va_put (D := D) (cl := vwCl) (ci := 4) (v := .int (zi (v))) (ty := .int) (C := RX4) (T := TX4) (N := 17) (pc := 85) hx hb hT inT4 tyX4 tyX4_ok nmX4 hown hK.1 hP hD hS 0 rfl rfl 9 (by decide) (hT _ tw_346) (fun _ h9 => h9) rfl (by decide +kernel) rfl rfl (Nat.le_of_ble_eq_true rfl) dX4_rule_85 (fun H locs hP hD hS => ?_)
              replace hP : va_P D vwCl (wM ad cI n st hr ca sp k ts th pr v lu ll up lo fr rr hv) H := hP
              replace hD : va_D (inW (wM ad cI n st hr ca sp k ts th pr hc lu ll up lo fr rr hv)) (wM ad cI n st hr ca sp k ts th pr v lu ll up lo fr rr hv) := hD
              refine lv_iload_n (pc := 88) hx hb dX4_rule_88 rfl (lv_at hl 0 rfl) ?_
              exact wr_iret hx hb hrt hlk dX4_rule_89 hP hS (⟨(hc, pr, v), by first | (exfalso; omega) | (rw [ruleS]; repeat (first | rw [if_pos (by omega)] | rw [if_neg (by omega)])), rfl, rfl⟩)
          · refine lv_iload_n (pc := 60) hx hb dX4_rule_60 rfl (lv_at hl 3 rfl) ?_
            refine lv_goto (tgt := 68) (pc := 61) hx hb dX4_rule_61 (by decide) ?_
            refine va_put (D := D) (cl := vwCl) (ci := 4) (v := .int (zi (v))) (ty := .int) (C := RX4) (T := TX4) (N := 17) (pc := 68) hx hb hT inT4 tyX4 tyX4_ok nmX4 hown hK.1 hP hD hS 0 rfl rfl 8 (by decide) (hT _ tw_345) (fun _ h9 => h9) rfl (by decide +kernel) rfl rfl (Nat.le_of_ble_eq_true rfl) dX4_rule_68 (fun H locs hP hD hS => ?_)
            replace hP : va_P D vwCl (wM ad cI n st hr ca sp k ts th v hc lu ll up lo fr rr hv) H := hP
            replace hD : va_D (inW (wM ad cI n st hr ca sp k ts th pr hc lu ll up lo fr rr hv)) (wM ad cI n st hr ca sp k ts th v hc lu ll up lo fr rr hv) := hD
            refine lv_aload_n (pc := 71) hx hb dX4_rule_71 rfl (lv_at hl 1 rfl) ?_
            refine lv_iload_n (pc := 72) hx hb dX4_rule_72 rfl (lv_at hl 2 rfl) ?_
            refine z_iconst (pc := 73) hx hb dX4_rule_73 ?_
            refine z_icmp_ne (tgt := 81) (pc := 74) hx hb dX4_rule_74 (by decide) (by omega) (by omega) (fun c_7 => ?_) (fun c_7 => ?_)
            · refine lv_aload_n (pc := 81) hx hb dX4_rule_81 rfl (lv_at hl 1 rfl) ?_
              refine va_get (D := D) (cl := vwCl) (ci := 4) (v := .int (zi (hc))) (C := RX4) (T := TX4) (N := 17) (pc := 82) hx hb hT inT4 hown hK.1 hP 0 rfl rfl 9 (by decide) (hT _ tw_346) (fun _ h9 => h9) rfl dX4_rule_82 ?_
              refine va_put (D := D) (cl := vwCl) (ci := 4) (v := .int (zi (hc))) (ty := .int) (C := RX4) (T := TX4) (N := 17) (pc := 85) hx hb hT inT4 tyX4 tyX4_ok nmX4 hown hK.1 hP hD hS 0 rfl rfl 9 (by decide) (hT _ tw_346) (fun _ h9 => h9) rfl (by decide +kernel) rfl rfl (Nat.le_of_ble_eq_true rfl) dX4_rule_85 (fun H locs hP hD hS => ?_)
              replace hP : va_P D vwCl (wM ad cI n st hr ca sp k ts th v hc lu ll up lo fr rr hv) H := hP
              replace hD : va_D (inW (wM ad cI n st hr ca sp k ts th pr hc lu ll up lo fr rr hv)) (wM ad cI n st hr ca sp k ts th v hc lu ll up lo fr rr hv) := hD
              refine lv_iload_n (pc := 88) hx hb dX4_rule_88 rfl (lv_at hl 0 rfl) ?_
              exact wr_iret hx hb hrt hlk dX4_rule_89 hP hS (⟨(hc, v, hc), by first | (exfalso; omega) | (rw [ruleS]; repeat (first | rw [if_pos (by omega)] | rw [if_neg (by omega)])), rfl, rfl⟩)
            · refine lv_iload_n (pc := 77) hx hb dX4_rule_77 rfl (lv_at hl 3 rfl) ?_
              refine lv_goto (tgt := 85) (pc := 78) hx hb dX4_rule_78 (by decide) ?_
              refine va_put (D := D) (cl := vwCl) (ci := 4) (v := .int (zi (v))) (ty := .int) (C := RX4) (T := TX4) (N := 17) (pc := 85) hx hb hT inT4 tyX4 tyX4_ok nmX4 hown hK.1 hP hD hS 0 rfl rfl 9 (by decide) (hT _ tw_346) (fun _ h9 => h9) rfl (by decide +kernel) rfl rfl (Nat.le_of_ble_eq_true rfl) dX4_rule_85 (fun H locs hP hD hS => ?_)
              replace hP : va_P D vwCl (wM ad cI n st hr ca sp k ts th v v lu ll up lo fr rr hv) H := hP
              replace hD : va_D (inW (wM ad cI n st hr ca sp k ts th pr hc lu ll up lo fr rr hv)) (wM ad cI n st hr ca sp k ts th v v lu ll up lo fr rr hv) := hD
              refine lv_iload_n (pc := 88) hx hb dX4_rule_88 rfl (lv_at hl 0 rfl) ?_
              exact wr_iret hx hb hrt hlk dX4_rule_89 hP hS (⟨(hc, v, v), by first | (exfalso; omega) | (rw [ruleS]; repeat (first | rw [if_pos (by omega)] | rw [if_neg (by omega)])), rfl, rfl⟩)
        · refine lv_aload_n (pc := 43) hx hb dX4_rule_43 rfl (lv_at hl 0 rfl) ?_
          refine va_get (D := D) (cl := vwCl) (ci := 4) (v := .int (zi (pr))) (C := RX4) (T := TX4) (N := 17) (pc := 44) hx hb hT inT4 hown hK.1 hP 0 rfl rfl 8 (by decide) (hT _ tw_345) (fun _ h9 => h9) rfl dX4_rule_44 ?_
          refine lv_goto (tgt := 54) (pc := 47) hx hb dX4_rule_47 (by decide) ?_
          refine lv_istore_n (lv' := [(3, .int (zi (pr))), (0, .ref (ad 0)), (1, .int (zi (w))), (2, .int (zi (v)))]) (pc := 54) hx hb dX4_rule_54 rfl hl (by decide) rfl (fun ls hl => ?_)
          refine lv_aload_n (pc := 55) hx hb dX4_rule_55 rfl (lv_at hl 1 rfl) ?_
          refine lv_iload_n (pc := 56) hx hb dX4_rule_56 rfl (lv_at hl 2 rfl) ?_
          refine z_if_ne (tgt := 64) (pc := 57) hx hb dX4_rule_57 (by decide) (by omega) (fun c_8 => ?_) (fun c_8 => ?_)
          · refine lv_aload_n (pc := 64) hx hb dX4_rule_64 rfl (lv_at hl 1 rfl) ?_
            refine va_get (D := D) (cl := vwCl) (ci := 4) (v := .int (zi (pr))) (C := RX4) (T := TX4) (N := 17) (pc := 65) hx hb hT inT4 hown hK.1 hP 0 rfl rfl 8 (by decide) (hT _ tw_345) (fun _ h9 => h9) rfl dX4_rule_65 ?_
            refine va_put (D := D) (cl := vwCl) (ci := 4) (v := .int (zi (pr))) (ty := .int) (C := RX4) (T := TX4) (N := 17) (pc := 68) hx hb hT inT4 tyX4 tyX4_ok nmX4 hown hK.1 hP hD hS 0 rfl rfl 8 (by decide) (hT _ tw_345) (fun _ h9 => h9) rfl (by decide +kernel) rfl rfl (Nat.le_of_ble_eq_true rfl) dX4_rule_68 (fun H locs hP hD hS => ?_)
            replace hP : va_P D vwCl (wM ad cI n st hr ca sp k ts th pr hc lu ll up lo fr rr hv) H := hP
            replace hD : va_D (inW (wM ad cI n st hr ca sp k ts th pr hc lu ll up lo fr rr hv)) (wM ad cI n st hr ca sp k ts th pr hc lu ll up lo fr rr hv) := hD
            refine lv_aload_n (pc := 71) hx hb dX4_rule_71 rfl (lv_at hl 1 rfl) ?_
            refine lv_iload_n (pc := 72) hx hb dX4_rule_72 rfl (lv_at hl 2 rfl) ?_
            refine z_iconst (pc := 73) hx hb dX4_rule_73 ?_
            refine z_icmp_ne (tgt := 81) (pc := 74) hx hb dX4_rule_74 (by decide) (by omega) (by omega) (fun c_9 => ?_) (fun c_9 => ?_)
            · refine lv_aload_n (pc := 81) hx hb dX4_rule_81 rfl (lv_at hl 1 rfl) ?_
              refine va_get (D := D) (cl := vwCl) (ci := 4) (v := .int (zi (hc))) (C := RX4) (T := TX4) (N := 17) (pc := 82) hx hb hT inT4 hown hK.1 hP 0 rfl rfl 9 (by decide) (hT _ tw_346) (fun _ h9 => h9) rfl dX4_rule_82 ?_
              refine va_put (D := D) (cl := vwCl) (ci := 4) (v := .int (zi (hc))) (ty := .int) (C := RX4) (T := TX4) (N := 17) (pc := 85) hx hb hT inT4 tyX4 tyX4_ok nmX4 hown hK.1 hP hD hS 0 rfl rfl 9 (by decide) (hT _ tw_346) (fun _ h9 => h9) rfl (by decide +kernel) rfl rfl (Nat.le_of_ble_eq_true rfl) dX4_rule_85 (fun H locs hP hD hS => ?_)
              replace hP : va_P D vwCl (wM ad cI n st hr ca sp k ts th pr hc lu ll up lo fr rr hv) H := hP
              replace hD : va_D (inW (wM ad cI n st hr ca sp k ts th pr hc lu ll up lo fr rr hv)) (wM ad cI n st hr ca sp k ts th pr hc lu ll up lo fr rr hv) := hD
              refine lv_iload_n (pc := 88) hx hb dX4_rule_88 rfl (lv_at hl 0 rfl) ?_
              exact wr_iret hx hb hrt hlk dX4_rule_89 hP hS (⟨(pr, pr, hc), by first | (exfalso; omega) | (rw [ruleS]; repeat (first | rw [if_pos (by omega)] | rw [if_neg (by omega)])), rfl, rfl⟩)
            · refine lv_iload_n (pc := 77) hx hb dX4_rule_77 rfl (lv_at hl 3 rfl) ?_
              refine lv_goto (tgt := 85) (pc := 78) hx hb dX4_rule_78 (by decide) ?_
              refine va_put (D := D) (cl := vwCl) (ci := 4) (v := .int (zi (v))) (ty := .int) (C := RX4) (T := TX4) (N := 17) (pc := 85) hx hb hT inT4 tyX4 tyX4_ok nmX4 hown hK.1 hP hD hS 0 rfl rfl 9 (by decide) (hT _ tw_346) (fun _ h9 => h9) rfl (by decide +kernel) rfl rfl (Nat.le_of_ble_eq_true rfl) dX4_rule_85 (fun H locs hP hD hS => ?_)
              replace hP : va_P D vwCl (wM ad cI n st hr ca sp k ts th pr v lu ll up lo fr rr hv) H := hP
              replace hD : va_D (inW (wM ad cI n st hr ca sp k ts th pr hc lu ll up lo fr rr hv)) (wM ad cI n st hr ca sp k ts th pr v lu ll up lo fr rr hv) := hD
              refine lv_iload_n (pc := 88) hx hb dX4_rule_88 rfl (lv_at hl 0 rfl) ?_
              exact wr_iret hx hb hrt hlk dX4_rule_89 hP hS (⟨(pr, pr, v), by first | (exfalso; omega) | (rw [ruleS]; repeat (first | rw [if_pos (by omega)] | rw [if_neg (by omega)])), rfl, rfl⟩)
          · refine lv_iload_n (pc := 60) hx hb dX4_rule_60 rfl (lv_at hl 3 rfl) ?_
            refine lv_goto (tgt := 68) (pc := 61) hx hb dX4_rule_61 (by decide) ?_
            refine va_put (D := D) (cl := vwCl) (ci := 4) (v := .int (zi (v))) (ty := .int) (C := RX4) (T := TX4) (N := 17) (pc := 68) hx hb hT inT4 tyX4 tyX4_ok nmX4 hown hK.1 hP hD hS 0 rfl rfl 8 (by decide) (hT _ tw_345) (fun _ h9 => h9) rfl (by decide +kernel) rfl rfl (Nat.le_of_ble_eq_true rfl) dX4_rule_68 (fun H locs hP hD hS => ?_)
            replace hP : va_P D vwCl (wM ad cI n st hr ca sp k ts th v hc lu ll up lo fr rr hv) H := hP
            replace hD : va_D (inW (wM ad cI n st hr ca sp k ts th pr hc lu ll up lo fr rr hv)) (wM ad cI n st hr ca sp k ts th v hc lu ll up lo fr rr hv) := hD
            refine lv_aload_n (pc := 71) hx hb dX4_rule_71 rfl (lv_at hl 1 rfl) ?_
            refine lv_iload_n (pc := 72) hx hb dX4_rule_72 rfl (lv_at hl 2 rfl) ?_
            refine z_iconst (pc := 73) hx hb dX4_rule_73 ?_
            refine z_icmp_ne (tgt := 81) (pc := 74) hx hb dX4_rule_74 (by decide) (by omega) (by omega) (fun c_10 => ?_) (fun c_10 => ?_)
            · refine lv_aload_n (pc := 81) hx hb dX4_rule_81 rfl (lv_at hl 1 rfl) ?_
              refine va_get (D := D) (cl := vwCl) (ci := 4) (v := .int (zi (hc))) (C := RX4) (T := TX4) (N := 17) (pc := 82) hx hb hT inT4 hown hK.1 hP 0 rfl rfl 9 (by decide) (hT _ tw_346) (fun _ h9 => h9) rfl dX4_rule_82 ?_
              refine va_put (D := D) (cl := vwCl) (ci := 4) (v := .int (zi (hc))) (ty := .int) (C := RX4) (T := TX4) (N := 17) (pc := 85) hx hb hT inT4 tyX4 tyX4_ok nmX4 hown hK.1 hP hD hS 0 rfl rfl 9 (by decide) (hT _ tw_346) (fun _ h9 => h9) rfl (by decide +kernel) rfl rfl (Nat.le_of_ble_eq_true rfl) dX4_rule_85 (fun H locs hP hD hS => ?_)
              replace hP : va_P D vwCl (wM ad cI n st hr ca sp k ts th v hc lu ll up lo fr rr hv) H := hP
              replace hD : va_D (inW (wM ad cI n st hr ca sp k ts th pr hc lu ll up lo fr rr hv)) (wM ad cI n st hr ca sp k ts th v hc lu ll up lo fr rr hv) := hD
              refine lv_iload_n (pc := 88) hx hb dX4_rule_88 rfl (lv_at hl 0 rfl) ?_
              exact wr_iret hx hb hrt hlk dX4_rule_89 hP hS (⟨(pr, v, hc), by first | (exfalso; omega) | (rw [ruleS]; repeat (first | rw [if_pos (by omega)] | rw [if_neg (by omega)])), rfl, rfl⟩)
            · refine lv_iload_n (pc := 77) hx hb dX4_rule_77 rfl (lv_at hl 3 rfl) ?_
              refine lv_goto (tgt := 85) (pc := 78) hx hb dX4_rule_78 (by decide) ?_
              refine va_put (D := D) (cl := vwCl) (ci := 4) (v := .int (zi (v))) (ty := .int) (C := RX4) (T := TX4) (N := 17) (pc := 85) hx hb hT inT4 tyX4 tyX4_ok nmX4 hown hK.1 hP hD hS 0 rfl rfl 9 (by decide) (hT _ tw_346) (fun _ h9 => h9) rfl (by decide +kernel) rfl rfl (Nat.le_of_ble_eq_true rfl) dX4_rule_85 (fun H locs hP hD hS => ?_)
              replace hP : va_P D vwCl (wM ad cI n st hr ca sp k ts th v v lu ll up lo fr rr hv) H := hP
              replace hD : va_D (inW (wM ad cI n st hr ca sp k ts th pr hc lu ll up lo fr rr hv)) (wM ad cI n st hr ca sp k ts th v v lu ll up lo fr rr hv) := hD
              refine lv_iload_n (pc := 88) hx hb dX4_rule_88 rfl (lv_at hl 0 rfl) ?_
              exact wr_iret hx hb hrt hlk dX4_rule_89 hP hS (⟨(pr, v, v), by first | (exfalso; omega) | (rw [ruleS]; repeat (first | rw [if_pos (by omega)] | rw [if_neg (by omega)])), rfl, rfl⟩)
      · refine z_sipush (pc := 35) hx hb dX4_rule_35 (by decide) ?_
        exact wr_iret hx hb hrt hlk dX4_rule_38 hP hS (⟨(-1002, pr, hc), by first | (exfalso; omega) | (rw [ruleS]; repeat (first | rw [if_pos (by omega)] | rw [if_neg (by omega)])), rfl, rfl⟩)
    · refine z_ldc2 (pc := 20) hx hb (500) hown (hT _ tw_403) (by decide) dX4_rule_20 ?_
      refine lv_goto (tgt := 29) (pc := 23) hx hb dX4_rule_23 (by decide) ?_
      refine rd_S (pc := 29) hx hb hml hown hT hK (c_X4_in D cI cJ l (v) (by omega) ((1 - w)) (by omega) (500) (by omega)) ca_X4_in tw_400 va_Pnil ⟨Nat.le_of_ble_eq_true rfl, Nat.le_of_ble_eq_true rfl⟩ rfl hl.1 (As := [.long (zj (v)), .long (zj ((1 - w))), .long (zj (500))]) (rest := []) rfl (Nat.le_of_ble_eq_true rfl) ⟨Nat.le_of_ble_eq_true rfl, Nat.le_of_ble_eq_true rfl⟩ dX4_rule_29 ?_
      refine z_ifB_ne (tgt := 39) (pc := 32) hx hb dX4_rule_32 (by decide) (fun c_11 => ?_) (fun c_11 => ?_)
      · refine lv_iload_n (pc := 39) hx hb dX4_rule_39 rfl (lv_at hl 1 rfl) ?_
        refine z_if_ne (tgt := 50) (pc := 40) hx hb dX4_rule_40 (by decide) (by omega) (fun c_12 => ?_) (fun c_12 => ?_)
        · refine lv_aload_n (pc := 50) hx hb dX4_rule_50 rfl (lv_at hl 0 rfl) ?_
          refine va_get (D := D) (cl := vwCl) (ci := 4) (v := .int (zi (hc))) (C := RX4) (T := TX4) (N := 17) (pc := 51) hx hb hT inT4 hown hK.1 hP 0 rfl rfl 9 (by decide) (hT _ tw_346) (fun _ h9 => h9) rfl dX4_rule_51 ?_
          refine lv_istore_n (lv' := [(3, .int (zi (hc))), (0, .ref (ad 0)), (1, .int (zi (w))), (2, .int (zi (v)))]) (pc := 54) hx hb dX4_rule_54 rfl hl (by decide) rfl (fun ls hl => ?_)
          refine lv_aload_n (pc := 55) hx hb dX4_rule_55 rfl (lv_at hl 1 rfl) ?_
          refine lv_iload_n (pc := 56) hx hb dX4_rule_56 rfl (lv_at hl 2 rfl) ?_
          refine z_if_ne (tgt := 64) (pc := 57) hx hb dX4_rule_57 (by decide) (by omega) (fun c_13 => ?_) (fun c_13 => ?_)
          · refine lv_aload_n (pc := 64) hx hb dX4_rule_64 rfl (lv_at hl 1 rfl) ?_
            refine va_get (D := D) (cl := vwCl) (ci := 4) (v := .int (zi (pr))) (C := RX4) (T := TX4) (N := 17) (pc := 65) hx hb hT inT4 hown hK.1 hP 0 rfl rfl 8 (by decide) (hT _ tw_345) (fun _ h9 => h9) rfl dX4_rule_65 ?_
            refine va_put (D := D) (cl := vwCl) (ci := 4) (v := .int (zi (pr))) (ty := .int) (C := RX4) (T := TX4) (N := 17) (pc := 68) hx hb hT inT4 tyX4 tyX4_ok nmX4 hown hK.1 hP hD hS 0 rfl rfl 8 (by decide) (hT _ tw_345) (fun _ h9 => h9) rfl (by decide +kernel) rfl rfl (Nat.le_of_ble_eq_true rfl) dX4_rule_68 (fun H locs hP hD hS => ?_)
            replace hP : va_P D vwCl (wM ad cI n st hr ca sp k ts th pr hc lu ll up lo fr rr hv) H := hP
            replace hD : va_D (inW (wM ad cI n st hr ca sp k ts th pr hc lu ll up lo fr rr hv)) (wM ad cI n st hr ca sp k ts th pr hc lu ll up lo fr rr hv) := hD
            refine lv_aload_n (pc := 71) hx hb dX4_rule_71 rfl (lv_at hl 1 rfl) ?_
            refine lv_iload_n (pc := 72) hx hb dX4_rule_72 rfl (lv_at hl 2 rfl) ?_
            refine z_iconst (pc := 73) hx hb dX4_rule_73 ?_
            refine z_icmp_ne (tgt := 81) (pc := 74) hx hb dX4_rule_74 (by decide) (by omega) (by omega) (fun c_14 => ?_) (fun c_14 => ?_)
            · refine lv_aload_n (pc := 81) hx hb dX4_rule_81 rfl (lv_at hl 1 rfl) ?_
              refine va_get (D := D) (cl := vwCl) (ci := 4) (v := .int (zi (hc))) (C := RX4) (T := TX4) (N := 17) (pc := 82) hx hb hT inT4 hown hK.1 hP 0 rfl rfl 9 (by decide) (hT _ tw_346) (fun _ h9 => h9) rfl dX4_rule_82 ?_
              refine va_put (D := D) (cl := vwCl) (ci := 4) (v := .int (zi (hc))) (ty := .int) (C := RX4) (T := TX4) (N := 17) (pc := 85) hx hb hT inT4 tyX4 tyX4_ok nmX4 hown hK.1 hP hD hS 0 rfl rfl 9 (by decide) (hT _ tw_346) (fun _ h9 => h9) rfl (by decide +kernel) rfl rfl (Nat.le_of_ble_eq_true rfl) dX4_rule_85 (fun H locs hP hD hS => ?_)
              replace hP : va_P D vwCl (wM ad cI n st hr ca sp k ts th pr hc lu ll up lo fr rr hv) H := hP
              replace hD : va_D (inW (wM ad cI n st hr ca sp k ts th pr hc lu ll up lo fr rr hv)) (wM ad cI n st hr ca sp k ts th pr hc lu ll up lo fr rr hv) := hD
              refine lv_iload_n (pc := 88) hx hb dX4_rule_88 rfl (lv_at hl 0 rfl) ?_
              exact wr_iret hx hb hrt hlk dX4_rule_89 hP hS (⟨(hc, pr, hc), by first | (exfalso; omega) | (rw [ruleS]; repeat (first | rw [if_pos (by omega)] | rw [if_neg (by omega)])), rfl, rfl⟩)
            · refine lv_iload_n (pc := 77) hx hb dX4_rule_77 rfl (lv_at hl 3 rfl) ?_
              refine lv_goto (tgt := 85) (pc := 78) hx hb dX4_rule_78 (by decide) ?_
              refine va_put (D := D) (cl := vwCl) (ci := 4) (v := .int (zi (v))) (ty := .int) (C := RX4) (T := TX4) (N := 17) (pc := 85) hx hb hT inT4 tyX4 tyX4_ok nmX4 hown hK.1 hP hD hS 0 rfl rfl 9 (by decide) (hT _ tw_346) (fun _ h9 => h9) rfl (by decide +kernel) rfl rfl (Nat.le_of_ble_eq_true rfl) dX4_rule_85 (fun H locs hP hD hS => ?_)
              replace hP : va_P D vwCl (wM ad cI n st hr ca sp k ts th pr v lu ll up lo fr rr hv) H := hP
              replace hD : va_D (inW (wM ad cI n st hr ca sp k ts th pr hc lu ll up lo fr rr hv)) (wM ad cI n st hr ca sp k ts th pr v lu ll up lo fr rr hv) := hD
              refine lv_iload_n (pc := 88) hx hb dX4_rule_88 rfl (lv_at hl 0 rfl) ?_
              exact wr_iret hx hb hrt hlk dX4_rule_89 hP hS (⟨(hc, pr, v), by first | (exfalso; omega) | (rw [ruleS]; repeat (first | rw [if_pos (by omega)] | rw [if_neg (by omega)])), rfl, rfl⟩)
          · refine lv_iload_n (pc := 60) hx hb dX4_rule_60 rfl (lv_at hl 3 rfl) ?_
            refine lv_goto (tgt := 68) (pc := 61) hx hb dX4_rule_61 (by decide) ?_
            refine va_put (D := D) (cl := vwCl) (ci := 4) (v := .int (zi (v))) (ty := .int) (C := RX4) (T := TX4) (N := 17) (pc := 68) hx hb hT inT4 tyX4 tyX4_ok nmX4 hown hK.1 hP hD hS 0 rfl rfl 8 (by decide) (hT _ tw_345) (fun _ h9 => h9) rfl (by decide +kernel) rfl rfl (Nat.le_of_ble_eq_true rfl) dX4_rule_68 (fun H locs hP hD hS => ?_)
            replace hP : va_P D vwCl (wM ad cI n st hr ca sp k ts th v hc lu ll up lo fr rr hv) H := hP
            replace hD : va_D (inW (wM ad cI n st hr ca sp k ts th pr hc lu ll up lo fr rr hv)) (wM ad cI n st hr ca sp k ts th v hc lu ll up lo fr rr hv) := hD
            refine lv_aload_n (pc := 71) hx hb dX4_rule_71 rfl (lv_at hl 1 rfl) ?_
            refine lv_iload_n (pc := 72) hx hb dX4_rule_72 rfl (lv_at hl 2 rfl) ?_
            refine z_iconst (pc := 73) hx hb dX4_rule_73 ?_
            refine z_icmp_ne (tgt := 81) (pc := 74) hx hb dX4_rule_74 (by decide) (by omega) (by omega) (fun c_15 => ?_) (fun c_15 => ?_)
            · refine lv_aload_n (pc := 81) hx hb dX4_rule_81 rfl (lv_at hl 1 rfl) ?_
              refine va_get (D := D) (cl := vwCl) (ci := 4) (v := .int (zi (hc))) (C := RX4) (T := TX4) (N := 17) (pc := 82) hx hb hT inT4 hown hK.1 hP 0 rfl rfl 9 (by decide) (hT _ tw_346) (fun _ h9 => h9) rfl dX4_rule_82 ?_
              refine va_put (D := D) (cl := vwCl) (ci := 4) (v := .int (zi (hc))) (ty := .int) (C := RX4) (T := TX4) (N := 17) (pc := 85) hx hb hT inT4 tyX4 tyX4_ok nmX4 hown hK.1 hP hD hS 0 rfl rfl 9 (by decide) (hT _ tw_346) (fun _ h9 => h9) rfl (by decide +kernel) rfl rfl (Nat.le_of_ble_eq_true rfl) dX4_rule_85 (fun H locs hP hD hS => ?_)
              replace hP : va_P D vwCl (wM ad cI n st hr ca sp k ts th v hc lu ll up lo fr rr hv) H := hP
              replace hD : va_D (inW (wM ad cI n st hr ca sp k ts th pr hc lu ll up lo fr rr hv)) (wM ad cI n st hr ca sp k ts th v hc lu ll up lo fr rr hv) := hD
              refine lv_iload_n (pc := 88) hx hb dX4_rule_88 rfl (lv_at hl 0 rfl) ?_
              exact wr_iret hx hb hrt hlk dX4_rule_89 hP hS (⟨(hc, v, hc), by first | (exfalso; omega) | (rw [ruleS]; repeat (first | rw [if_pos (by omega)] | rw [if_neg (by omega)])), rfl, rfl⟩)
            · refine lv_iload_n (pc := 77) hx hb dX4_rule_77 rfl (lv_at hl 3 rfl) ?_
              refine lv_goto (tgt := 85) (pc := 78) hx hb dX4_rule_78 (by decide) ?_
              refine va_put (D := D) (cl := vwCl) (ci := 4) (v := .int (zi (v))) (ty := .int) (C := RX4) (T := TX4) (N := 17) (pc := 85) hx hb hT inT4 tyX4 tyX4_ok nmX4 hown hK.1 hP hD hS 0 rfl rfl 9 (by decide) (hT _ tw_346) (fun _ h9 => h9) rfl (by decide +kernel) rfl rfl (Nat.le_of_ble_eq_true rfl) dX4_rule_85 (fun H locs hP hD hS => ?_)
              replace hP : va_P D vwCl (wM ad cI n st hr ca sp k ts th v v lu ll up lo fr rr hv) H := hP
              replace hD : va_D (inW (wM ad cI n st hr ca sp k ts th pr hc lu ll up lo fr rr hv)) (wM ad cI n st hr ca sp k ts th v v lu ll up lo fr rr hv) := hD
              refine lv_iload_n (pc := 88) hx hb dX4_rule_88 rfl (lv_at hl 0 rfl) ?_
              exact wr_iret hx hb hrt hlk dX4_rule_89 hP hS (⟨(hc, v, v), by first | (exfalso; omega) | (rw [ruleS]; repeat (first | rw [if_pos (by omega)] | rw [if_neg (by omega)])), rfl, rfl⟩)
        · refine lv_aload_n (pc := 43) hx hb dX4_rule_43 rfl (lv_at hl 0 rfl) ?_
          refine va_get (D := D) (cl := vwCl) (ci := 4) (v := .int (zi (pr))) (C := RX4) (T := TX4) (N := 17) (pc := 44) hx hb hT inT4 hown hK.1 hP 0 rfl rfl 8 (by decide) (hT _ tw_345) (fun _ h9 => h9) rfl dX4_rule_44 ?_
          refine lv_goto (tgt := 54) (pc := 47) hx hb dX4_rule_47 (by decide) ?_
          refine lv_istore_n (lv' := [(3, .int (zi (pr))), (0, .ref (ad 0)), (1, .int (zi (w))), (2, .int (zi (v)))]) (pc := 54) hx hb dX4_rule_54 rfl hl (by decide) rfl (fun ls hl => ?_)
          refine lv_aload_n (pc := 55) hx hb dX4_rule_55 rfl (lv_at hl 1 rfl) ?_
          refine lv_iload_n (pc := 56) hx hb dX4_rule_56 rfl (lv_at hl 2 rfl) ?_
          refine z_if_ne (tgt := 64) (pc := 57) hx hb dX4_rule_57 (by decide) (by omega) (fun c_16 => ?_) (fun c_16 => ?_)
          · refine lv_aload_n (pc := 64) hx hb dX4_rule_64 rfl (lv_at hl 1 rfl) ?_
            refine va_get (D := D) (cl := vwCl) (ci := 4) (v := .int (zi (pr))) (C := RX4) (T := TX4) (N := 17) (pc := 65) hx hb hT inT4 hown hK.1 hP 0 rfl rfl 8 (by decide) (hT _ tw_345) (fun _ h9 => h9) rfl dX4_rule_65 ?_
            refine va_put (D := D) (cl := vwCl) (ci := 4) (v := .int (zi (pr))) (ty := .int) (C := RX4) (T := TX4) (N := 17) (pc := 68) hx hb hT inT4 tyX4 tyX4_ok nmX4 hown hK.1 hP hD hS 0 rfl rfl 8 (by decide) (hT _ tw_345) (fun _ h9 => h9) rfl (by decide +kernel) rfl rfl (Nat.le_of_ble_eq_true rfl) dX4_rule_68 (fun H locs hP hD hS => ?_)
            replace hP : va_P D vwCl (wM ad cI n st hr ca sp k ts th pr hc lu ll up lo fr rr hv) H := hP
            replace hD : va_D (inW (wM ad cI n st hr ca sp k ts th pr hc lu ll up lo fr rr hv)) (wM ad cI n st hr ca sp k ts th pr hc lu ll up lo fr rr hv) := hD
            refine lv_aload_n (pc := 71) hx hb dX4_rule_71 rfl (lv_at hl 1 rfl) ?_
            refine lv_iload_n (pc := 72) hx hb dX4_rule_72 rfl (lv_at hl 2 rfl) ?_
            refine z_iconst (pc := 73) hx hb dX4_rule_73 ?_
            refine z_icmp_ne (tgt := 81) (pc := 74) hx hb dX4_rule_74 (by decide) (by omega) (by omega) (fun c_17 => ?_) (fun c_17 => ?_)
            · refine lv_aload_n (pc := 81) hx hb dX4_rule_81 rfl (lv_at hl 1 rfl) ?_
              refine va_get (D := D) (cl := vwCl) (ci := 4) (v := .int (zi (hc))) (C := RX4) (T := TX4) (N := 17) (pc := 82) hx hb hT inT4 hown hK.1 hP 0 rfl rfl 9 (by decide) (hT _ tw_346) (fun _ h9 => h9) rfl dX4_rule_82 ?_
              refine va_put (D := D) (cl := vwCl) (ci := 4) (v := .int (zi (hc))) (ty := .int) (C := RX4) (T := TX4) (N := 17) (pc := 85) hx hb hT inT4 tyX4 tyX4_ok nmX4 hown hK.1 hP hD hS 0 rfl rfl 9 (by decide) (hT _ tw_346) (fun _ h9 => h9) rfl (by decide +kernel) rfl rfl (Nat.le_of_ble_eq_true rfl) dX4_rule_85 (fun H locs hP hD hS => ?_)
              replace hP : va_P D vwCl (wM ad cI n st hr ca sp k ts th pr hc lu ll up lo fr rr hv) H := hP
              replace hD : va_D (inW (wM ad cI n st hr ca sp k ts th pr hc lu ll up lo fr rr hv)) (wM ad cI n st hr ca sp k ts th pr hc lu ll up lo fr rr hv) := hD
              refine lv_iload_n (pc := 88) hx hb dX4_rule_88 rfl (lv_at hl 0 rfl) ?_
              exact wr_iret hx hb hrt hlk dX4_rule_89 hP hS (⟨(pr, pr, hc), by first | (exfalso; omega) | (rw [ruleS]; repeat (first | rw [if_pos (by omega)] | rw [if_neg (by omega)])), rfl, rfl⟩)
            · refine lv_iload_n (pc := 77) hx hb dX4_rule_77 rfl (lv_at hl 3 rfl) ?_
              refine lv_goto (tgt := 85) (pc := 78) hx hb dX4_rule_78 (by decide) ?_
              refine va_put (D := D) (cl := vwCl) (ci := 4) (v := .int (zi (v))) (ty := .int) (C := RX4) (T := TX4) (N := 17) (pc := 85) hx hb hT inT4 tyX4 tyX4_ok nmX4 hown hK.1 hP hD hS 0 rfl rfl 9 (by decide) (hT _ tw_346) (fun _ h9 => h9) rfl (by decide +kernel) rfl rfl (Nat.le_of_ble_eq_true rfl) dX4_rule_85 (fun H locs hP hD hS => ?_)
              replace hP : va_P D vwCl (wM ad cI n st hr ca sp k ts th pr v lu ll up lo fr rr hv) H := hP
              replace hD : va_D (inW (wM ad cI n st hr ca sp k ts th pr hc lu ll up lo fr rr hv)) (wM ad cI n st hr ca sp k ts th pr v lu ll up lo fr rr hv) := hD
              refine lv_iload_n (pc := 88) hx hb dX4_rule_88 rfl (lv_at hl 0 rfl) ?_
              exact wr_iret hx hb hrt hlk dX4_rule_89 hP hS (⟨(pr, pr, v), by first | (exfalso; omega) | (rw [ruleS]; repeat (first | rw [if_pos (by omega)] | rw [if_neg (by omega)])), rfl, rfl⟩)
          · refine lv_iload_n (pc := 60) hx hb dX4_rule_60 rfl (lv_at hl 3 rfl) ?_
            refine lv_goto (tgt := 68) (pc := 61) hx hb dX4_rule_61 (by decide) ?_
            refine va_put (D := D) (cl := vwCl) (ci := 4) (v := .int (zi (v))) (ty := .int) (C := RX4) (T := TX4) (N := 17) (pc := 68) hx hb hT inT4 tyX4 tyX4_ok nmX4 hown hK.1 hP hD hS 0 rfl rfl 8 (by decide) (hT _ tw_345) (fun _ h9 => h9) rfl (by decide +kernel) rfl rfl (Nat.le_of_ble_eq_true rfl) dX4_rule_68 (fun H locs hP hD hS => ?_)
            replace hP : va_P D vwCl (wM ad cI n st hr ca sp k ts th v hc lu ll up lo fr rr hv) H := hP
            replace hD : va_D (inW (wM ad cI n st hr ca sp k ts th pr hc lu ll up lo fr rr hv)) (wM ad cI n st hr ca sp k ts th v hc lu ll up lo fr rr hv) := hD
            refine lv_aload_n (pc := 71) hx hb dX4_rule_71 rfl (lv_at hl 1 rfl) ?_
            refine lv_iload_n (pc := 72) hx hb dX4_rule_72 rfl (lv_at hl 2 rfl) ?_
            refine z_iconst (pc := 73) hx hb dX4_rule_73 ?_
            refine z_icmp_ne (tgt := 81) (pc := 74) hx hb dX4_rule_74 (by decide) (by omega) (by omega) (fun c_18 => ?_) (fun c_18 => ?_)
            · refine lv_aload_n (pc := 81) hx hb dX4_rule_81 rfl (lv_at hl 1 rfl) ?_
              refine va_get (D := D) (cl := vwCl) (ci := 4) (v := .int (zi (hc))) (C := RX4) (T := TX4) (N := 17) (pc := 82) hx hb hT inT4 hown hK.1 hP 0 rfl rfl 9 (by decide) (hT _ tw_346) (fun _ h9 => h9) rfl dX4_rule_82 ?_
              refine va_put (D := D) (cl := vwCl) (ci := 4) (v := .int (zi (hc))) (ty := .int) (C := RX4) (T := TX4) (N := 17) (pc := 85) hx hb hT inT4 tyX4 tyX4_ok nmX4 hown hK.1 hP hD hS 0 rfl rfl 9 (by decide) (hT _ tw_346) (fun _ h9 => h9) rfl (by decide +kernel) rfl rfl (Nat.le_of_ble_eq_true rfl) dX4_rule_85 (fun H locs hP hD hS => ?_)
              replace hP : va_P D vwCl (wM ad cI n st hr ca sp k ts th v hc lu ll up lo fr rr hv) H := hP
              replace hD : va_D (inW (wM ad cI n st hr ca sp k ts th pr hc lu ll up lo fr rr hv)) (wM ad cI n st hr ca sp k ts th v hc lu ll up lo fr rr hv) := hD
              refine lv_iload_n (pc := 88) hx hb dX4_rule_88 rfl (lv_at hl 0 rfl) ?_
              exact wr_iret hx hb hrt hlk dX4_rule_89 hP hS (⟨(pr, v, hc), by first | (exfalso; omega) | (rw [ruleS]; repeat (first | rw [if_pos (by omega)] | rw [if_neg (by omega)])), rfl, rfl⟩)
            · refine lv_iload_n (pc := 77) hx hb dX4_rule_77 rfl (lv_at hl 3 rfl) ?_
              refine lv_goto (tgt := 85) (pc := 78) hx hb dX4_rule_78 (by decide) ?_
              refine va_put (D := D) (cl := vwCl) (ci := 4) (v := .int (zi (v))) (ty := .int) (C := RX4) (T := TX4) (N := 17) (pc := 85) hx hb hT inT4 tyX4 tyX4_ok nmX4 hown hK.1 hP hD hS 0 rfl rfl 9 (by decide) (hT _ tw_346) (fun _ h9 => h9) rfl (by decide +kernel) rfl rfl (Nat.le_of_ble_eq_true rfl) dX4_rule_85 (fun H locs hP hD hS => ?_)
              replace hP : va_P D vwCl (wM ad cI n st hr ca sp k ts th v v lu ll up lo fr rr hv) H := hP
              replace hD : va_D (inW (wM ad cI n st hr ca sp k ts th pr hc lu ll up lo fr rr hv)) (wM ad cI n st hr ca sp k ts th v v lu ll up lo fr rr hv) := hD
              refine lv_iload_n (pc := 88) hx hb dX4_rule_88 rfl (lv_at hl 0 rfl) ?_
              exact wr_iret hx hb hrt hlk dX4_rule_89 hP hS (⟨(pr, v, v), by first | (exfalso; omega) | (rw [ruleS]; repeat (first | rw [if_pos (by omega)] | rw [if_neg (by omega)])), rfl, rfl⟩)
      · refine z_sipush (pc := 35) hx hb dX4_rule_35 (by decide) ?_
        exact wr_iret hx hb hrt hlk dX4_rule_38 hP hS (⟨(-1002, pr, hc), by first | (exfalso; omega) | (rw [ruleS]; repeat (first | rw [if_pos (by omega)] | rw [if_neg (by omega)])), rfl, rfl⟩)
