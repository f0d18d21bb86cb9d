/-! the words of STANDING, unit by unit -/
abbrev bitS (S x : Int) : Prop := S / 2 ^ x.toNat % 2 = 1
abbrev fby (b c : Int) : Prop := ¬ c = -1 ∧ (b = -1 ∨ c = b)
def cRk (st hr : Nat → Int) (S t : Int) : Nat → Int
  | 0 => 0
  | u + 1 => cRk st hr S t u + (if bitS S (st u) ∧ t ≤ hr u then 1 else 0)
def cFl (st hr ca : Nat → Int) (S b t : Int) : Nat → Int
  | 0 => 0
  | u + 1 => cFl st hr ca S b t u + (if (bitS S (st u) ∧ fby b (ca u)) ∧ hr u = t then 1 else 0)
def cNx (st hr ca : Nat → Int) (S b t : Int) : Nat → Int
  | 0 => -1
  | u + 1 => if ((bitS S (st u) ∧ fby b (ca u)) ∧ t < hr u) ∧ (cNx st hr ca S b t u = -1 ∨ hr u < cNx st hr ca S b t u) then hr u else cNx st hr ca S b t u
theorem cNx_rng {st hr ca : Nat → Int} {S b t : Int} (hhr : ∀ j : Nat, 0 ≤ hr j ∧ hr j ≤ 500) : ∀ u, -1 ≤ cNx st hr ca S b t u ∧ cNx st hr ca S b t u ≤ 500
  | 0 => by simp [cNx]
  | u + 1 => by
    have ih := cNx_rng (st := st) (ca := ca) (S := S) (b := b) (t := t) hhr u
    have h := hhr u
    simp only [cNx]; split <;> omega

set_option maxHeartbeats 4000000 in
set_option maxRecDepth 100000 in
theorem c_X2_has (D : va_G) (cI cJ : ClassId) (l : Launch) (ad : Nat → Nat) (n : Int) (st hr ca : Nat → Int) (pcs : Int) (fr lv : Nat → Int) (k : Int) (ts th sp hv : Nat → Int) (pr hc : Int) (hn : 0 ≤ n ∧ n ≤ 12) (z : Int) (r_z : -2147483648 ≤ z ∧ z ≤ 2147483647) : RD D cI cJ l yX2_has cX2_has 2 (some .boolean) 1 22 [.ref (ad 1), .int (zi (z))] (wX ad cI cJ n st hr ca pcs fr lv k ts th sp hv pr hc) (.int (bI (0 ≤ z ∧ z ≤ n - 1))) := by
  refine RD.of (by decide) (Nat.le_of_ble_eq_true rfl) ?_
  intro p e s m args below meth c hx hb hrt hml hown hT hlk hK hP ls hl
  replace hl : lv_has ls 2 [(0, .ref (ad 1)), (1, .int (zi (z)))] := hl
  refine lv_iload_n (pc := 0) hx hb dX2_has_0 rfl (lv_at hl 1 rfl) ?_
  refine z_iconst (pc := 1) hx hb dX2_has_1 ?_
  refine lv_aload_n (pc := 2) hx hb dX2_has_2 rfl (lv_at hl 0 rfl) ?_
  refine va_get (D := D) (cl := vwCl) (ci := 2) (v := .int (zi (n))) (C := RX2) (T := TX2) (N := 4) (pc := 3) hx hb hT inT2 hown hK.1 hP 1 rfl rfl 3 (by decide) (hT _ tw_27) (fun _ h9 => h9) rfl dX2_has_3 ?_
  refine z_iconst (pc := 6) hx hb dX2_has_6 ?_
  refine z_isub (pc := 7) hx hb dX2_has_7 ?_
  refine rd_SN (pc := 8) hx hb hml hown hT hK (c_X3_isWithin D cI cJ l (z) (by omega) (0) (by omega) ((n - 1)) (by omega)) ca_X3_isWithin hK.2.2.2.2.1 va_Pnil ⟨Nat.le_of_ble_eq_true rfl, Nat.le_of_ble_eq_true rfl⟩ rfl hl.1 (As := [.int (zi (z)), .int (zi (0)), .int (zi ((n - 1)))]) (rest := []) rfl (Nat.le_of_ble_eq_true rfl) ⟨Nat.le_of_ble_eq_true rfl, Nat.le_of_ble_eq_true rfl⟩ dX2_has_8 ?_
  exact rd_zret hx hb hrt hlk dX2_has_11 (bI_c (by omega))

set_option maxHeartbeats 4000000 in
set_option maxRecDepth 100000 in
theorem c_X2_isIn (D : va_G) (cI cJ : ClassId) (l : Launch) (ad : Nat → Nat) (n : Int) (st hr ca : Nat → Int) (pcs : Int) (fr lv : Nat → Int) (k : Int) (ts th sp hv : Nat → Int) (pr hc : Int) (hU : VU n st hr ca) (z : Int) (u : Nat) (hz : z = (u : Int)) (hu : u < 12) (S : Int) (hS0 : 0 ≤ S ∧ S ≤ 15) : RD D cI cJ l yX2_isIn cX2_isIn 3 (some .boolean) 0 0 [.ref (ad 1), .int (zi (z)), .int (zi (S))] (wX ad cI cJ n st hr ca pcs fr lv k ts th sp hv pr hc) (.int (bI (bitS S (st u)))) := by
  subst hz
  refine RD.of (by decide) (Nat.le_of_ble_eq_true rfl) ?_
  intro p e s m args below meth c hx hb hrt hml hown hT hlk hK hP ls hl
  replace hl : lv_has ls 3 [(0, .ref (ad 1)), (1, .int (zi ((u : Int)))), (2, .int (zi (S)))] := hl
  obtain ⟨hn, hst, hhr, hh1, hca⟩ := id hU
  refine lv_iload_n (pc := 0) hx hb dX2_isIn_0 rfl (lv_at hl 2 rfl) ?_
  refine lv_aload_n (pc := 1) hx hb dX2_isIn_1 rfl (lv_at hl 0 rfl) ?_
  refine va_get (D := D) (cl := vwCl) (ci := 2) (v := .ref (ad 6)) (C := RX2) (T := TX2) (N := 4) (pc := 2) hx hb hT inT2 hown hK.1 hP 1 rfl rfl 0 (by decide) (hT _ tw_21) (fun _ h9 => h9) rfl dX2_isIn_2 ?_
  refine lv_iload_n (pc := 5) hx hb dX2_isIn_5 rfl (lv_at hl 1 rfl) ?_
  refine z_iald (pc := 6) hx hb hK hP 6 (u) (f := st) rfl (by omega) (by omega) (by omega) dX2_isIn_6 ?_
  have r_1 := hst (u)
  refine z_ishr (pc := 7) hx hb (by omega) dX2_isIn_7 ?_
  refine z_iconst (pc := 8) hx hb dX2_isIn_8 ?_
  refine z_iand1 (pc := 9) hx hb (by have h1 : 0 ≤ S / 2 ^ (st u).toNat := Int.ediv_nonneg (by omega) (Int.pow_nonneg (by omega)); have h2 : S / 2 ^ (st u).toNat ≤ S := Int.ediv_le_self _ (by omega); omega) dX2_isIn_9 ?_
  refine z_iconst (pc := 10) hx hb dX2_isIn_10 ?_
  refine z_icmp_ne (tgt := 18) (pc := 11) hx hb dX2_isIn_11 (by decide) (by omega) (by omega) (fun c_2 => ?_) (fun c_2 => ?_)
  · refine z_iconst (pc := 18) hx hb dX2_isIn_18 ?_
    exact rd_zret hx hb hrt hlk dX2_isIn_19 (bI0 (by assumption))
  · refine z_iconst (pc := 14) hx hb dX2_isIn_14 ?_
    refine lv_goto (tgt := 19) (pc := 15) hx hb dX2_isIn_15 (by decide) ?_
    exact rd_zret hx hb hrt hlk dX2_isIn_19 (bI1 (by assumption))

set_option maxHeartbeats 4000000 in
set_option maxRecDepth 100000 in
theorem c_X2_hasFailed (D : va_G) (cI cJ : ClassId) (l : Launch) (ad : Nat → Nat) (n : Int) (st hr ca : Nat → Int) (pcs : Int) (fr lv : Nat → Int) (k : Int) (ts th sp hv : Nat → Int) (pr hc : Int) (hU : VU n st hr ca) (z : Int) (u : Nat) (hz : z = (u : Int)) (hu : u < 12) (S : Int) (hS0 : 0 ≤ S ∧ S ≤ 15) (b : Int) (r_b : -1 ≤ b ∧ b ≤ 2) : RD D cI cJ l yX2_hasFailed cX2_hasFailed 4 (some .boolean) 1 22 [.ref (ad 1), .int (zi (z)), .int (zi (S)), .int (zi (b))] (wX ad cI cJ n st hr ca pcs fr lv k ts th sp hv pr hc) (.int (bI (bitS S (st u) ∧ fby b (ca u)))) := by
  subst hz
  refine RD.of (by decide) (Nat.le_of_ble_eq_true rfl) ?_
  intro p e s m args below meth c hx hb hrt hml hown hT hlk hK hP ls hl
  replace hl : lv_has ls 4 [(0, .ref (ad 1)), (1, .int (zi ((u : Int)))), (2, .int (zi (S))), (3, .int (zi (b)))] := hl
  obtain ⟨hn, hst, hhr, hh1, hca⟩ := id hU
  refine lv_aload_n (pc := 0) hx hb dX2_hasFailed_0 rfl (lv_at hl 0 rfl) ?_
  refine lv_iload_n (pc := 1) hx hb dX2_hasFailed_1 rfl (lv_at hl 1 rfl) ?_
  refine lv_iload_n (pc := 2) hx hb dX2_hasFailed_2 rfl (lv_at hl 2 rfl) ?_
  refine rd_V (pc := 3) hx hb hml hown hT hK (c_X2_isIn D cI cJ l ad n st hr ca pcs fr lv k ts th sp hv pr hc hU ((u : Int)) u (by omega) (by omega) (S) (by omega)) ca_X2_isIn tw_159 hP 1 2 rfl rfl rfl ⟨Nat.le_of_ble_eq_true rfl, Nat.le_of_ble_eq_true rfl⟩ rfl hl.1 (As := [.int (zi ((u : Int))), .int (zi (S))]) (rest := []) rfl (Nat.le_of_ble_eq_true rfl) ⟨Nat.le_of_ble_eq_true rfl, Nat.le_of_ble_eq_true rfl⟩ dX2_hasFailed_3 ?_
  refine z_ifB_eq (tgt := 38) (pc := 6) hx hb dX2_hasFailed_6 (by decide) (fun c_1 => ?_) (fun c_1 => ?_)
  · refine z_iconst (pc := 38) hx hb dX2_hasFailed_38 ?_
    exact rd_zret hx hb hrt hlk dX2_hasFailed_39 (bI0 (by first | exact (fun q => absurd q.1 (by assumption)) | (intro q; have q2 := q.2; omega)))
  · refine lv_aload_n (pc := 9) hx hb dX2_hasFailed_9 rfl (lv_at hl 0 rfl) ?_
    refine va_get (D := D) (cl := vwCl) (ci := 2) (v := .ref (ad 8)) (C := RX2) (T := TX2) (N := 4) (pc := 10) hx hb hT inT2 hown hK.1 hP 1 rfl rfl 2 (by decide) (hT _ tw_25) (fun _ h9 => h9) rfl dX2_hasFailed_10 ?_
    refine lv_iload_n (pc := 13) hx hb dX2_hasFailed_13 rfl (lv_at hl 1 rfl) ?_
    refine z_iald (pc := 14) hx hb hK hP 8 (u) (f := ca) rfl (by omega) (by omega) (by omega) dX2_hasFailed_14 ?_
    have r_2 := hca (u)
    refine z_iconst (pc := 15) hx hb dX2_hasFailed_15 ?_
    refine z_icmp_eq (tgt := 38) (pc := 16) hx hb dX2_hasFailed_16 (by decide) (by omega) (by omega) (fun c_3 => ?_) (fun c_3 => ?_)
    · refine z_iconst (pc := 38) hx hb dX2_hasFailed_38 ?_
      exact rd_zret hx hb hrt hlk dX2_hasFailed_39 (bI0 (by first | exact (fun q => absurd q.1 (by assumption)) | (intro q; have q2 := q.2; omega)))
    · refine lv_iload_n (pc := 19) hx hb dX2_hasFailed_19 rfl (lv_at hl 3 rfl) ?_
      refine z_iconst (pc := 20) hx hb dX2_hasFailed_20 ?_
      refine z_icmp_eq (tgt := 34) (pc := 21) hx hb dX2_hasFailed_21 (by decide) (by omega) (by omega) (fun c_4 => ?_) (fun c_4 => ?_)
      · refine z_iconst (pc := 34) hx hb dX2_hasFailed_34 ?_
        refine lv_goto (tgt := 39) (pc := 35) hx hb dX2_hasFailed_35 (by decide) ?_
        exact rd_zret hx hb hrt hlk dX2_hasFailed_39 (bI1 (by refine ⟨?_, ?_⟩ <;> first | assumption | omega))
      · refine lv_aload_n (pc := 24) hx hb dX2_hasFailed_24 rfl (lv_at hl 0 rfl) ?_
        refine va_get (D := D) (cl := vwCl) (ci := 2) (v := .ref (ad 8)) (C := RX2) (T := TX2) (N := 4) (pc := 25) hx hb hT inT2 hown hK.1 hP 1 rfl rfl 2 (by decide) (hT _ tw_25) (fun _ h9 => h9) rfl dX2_hasFailed_25 ?_
        refine lv_iload_n (pc := 28) hx hb dX2_hasFailed_28 rfl (lv_at hl 1 rfl) ?_
        refine z_iald (pc := 29) hx hb hK hP 8 (u) (f := ca) rfl (by omega) (by omega) (by omega) dX2_hasFailed_29 ?_
        have r_5 := hca (u)
        refine lv_iload_n (pc := 30) hx hb dX2_hasFailed_30 rfl (lv_at hl 3 rfl) ?_
        refine z_icmp_ne (tgt := 38) (pc := 31) hx hb dX2_hasFailed_31 (by decide) (by omega) (by omega) (fun c_6 => ?_) (fun c_6 => ?_)
        · refine z_iconst (pc := 38) hx hb dX2_hasFailed_38 ?_
          exact rd_zret hx hb hrt hlk dX2_hasFailed_39 (bI0 (by first | exact (fun q => absurd q.1 (by assumption)) | (intro q; have q2 := q.2; omega)))
        · refine z_iconst (pc := 34) hx hb dX2_hasFailed_34 ?_
          refine lv_goto (tgt := 39) (pc := 35) hx hb dX2_hasFailed_35 (by decide) ?_
          exact rd_zret hx hb hrt hlk dX2_hasFailed_39 (bI1 (by refine ⟨?_, ?_⟩ <;> first | assumption | omega))

set_option maxHeartbeats 4000000 in
set_option maxRecDepth 100000 in
theorem c_X2_atRisk (D : va_G) (cI cJ : ClassId) (l : Launch) (ad : Nat → Nat) (n : Int) (st hr ca : Nat → Int) (pcs : Int) (fr lv : Nat → Int) (k : Int) (ts th sp hv : Nat → Int) (pr hc : Int) (hU : VU n st hr ca) (S : Int) (hS0 : 0 ≤ S ∧ S ≤ 15) (t : Int) (r_t : -2147483648 ≤ t ∧ t ≤ 2147483647) : RD D cI cJ l yX2_atRisk cX2_atRisk 5 (some .int) 1 22 [.ref (ad 1), .int (zi (S)), .int (zi (t))] (wX ad cI cJ n st hr ca pcs fr lv k ts th sp hv pr hc) (.int (zi (cRk st hr S t n.toNat))) := by
  refine RD.of (by decide) (Nat.le_of_ble_eq_true rfl) ?_
  intro p e s m args below meth c hx hb hrt hml hown hT hlk hK hP ls hl
  replace hl : lv_has ls 5 [(0, .ref (ad 1)), (1, .int (zi (S))), (2, .int (zi (t)))] := hl
  obtain ⟨hn, hst, hhr, hh1, hca⟩ := id hU
  have loop : ∀ u : Nat, u ≤ n.toNat → ∀ (z1 z2 : Int), (z1 = cRk st hr S t u) → (z2 = (u : Int)) → ∀ ls : Array Slot, lv_has ls 5 [(0, .ref (ad 1)), (1, .int (zi (S))), (2, .int (zi (t))), (3, .int (zi (z1))), (4, .int (zi (z2)))] → W p l e (RM 1 22) s m args below meth c s.heap [] 0 0 (MQ below (QR (.int (zi (cRk st hr S t n.toNat))) s.heap) args s 0 0 (fun _ => False)) (F0 m 5 ls []) := by
    refine lp_up (fun u => ∀ (z1 z2 : Int), (z1 = cRk st hr S t u) → (z2 = (u : Int)) → ∀ ls : Array Slot, lv_has ls 5 [(0, .ref (ad 1)), (1, .int (zi (S))), (2, .int (zi (t))), (3, .int (zi (z1))), (4, .int (zi (z2)))] → W p l e (RM 1 22) s m args below meth c s.heap [] 0 0 (MQ below (QR (.int (zi (cRk st hr S t n.toNat))) s.heap) args s 0 0 (fun _ => False)) (F0 m 5 ls [])) (n.toNat) ?_ ?_
    · intro z1 z2 e1 e2 ls hl
      refine lv_iload (pc := 5) hx hb dX2_atRisk_5 (lv_at hl 4 rfl) ?_
      refine lv_aload_n (pc := 7) hx hb dX2_atRisk_7 rfl (lv_at hl 0 rfl) ?_
      refine va_get (D := D) (cl := vwCl) (ci := 2) (v := .int (zi (n))) (C := RX2) (T := TX2) (N := 4) (pc := 8) hx hb hT inT2 hown hK.1 hP 1 rfl rfl 3 (by decide) (hT _ tw_27) (fun _ h9 => h9) rfl dX2_atRisk_8 ?_
      refine z_icmp_ge (tgt := 44) (pc := 11) hx hb dX2_atRisk_11 (by decide) (by omega) (by omega) (fun c_1 => ?_) (fun c_1 => absurd c_1 (by omega))
      refine lv_iload_n (pc := 44) hx hb dX2_atRisk_44 rfl (lv_at hl 3 rfl) ?_
      exact rd_iret hx hb hrt hlk dX2_atRisk_45 (by rw [e1])
    · intro u hu ih z1 z2 e1 e2 ls hl
      refine lv_iload (pc := 5) hx hb dX2_atRisk_5 (lv_at hl 4 rfl) ?_
      refine lv_aload_n (pc := 7) hx hb dX2_atRisk_7 rfl (lv_at hl 0 rfl) ?_
      refine va_get (D := D) (cl := vwCl) (ci := 2) (v := .int (zi (n))) (C := RX2) (T := TX2) (N := 4) (pc := 8) hx hb hT inT2 hown hK.1 hP 1 rfl rfl 3 (by decide) (hT _ tw_27) (fun _ h9 => h9) rfl dX2_atRisk_8 ?_
      refine z_icmp_ge (tgt := 44) (pc := 11) hx hb dX2_atRisk_11 (by decide) (by omega) (by omega) (fun c_2 => absurd c_2 (by omega)) (fun c_2 => ?_)
      refine lv_aload_n (pc := 14) hx hb dX2_atRisk_14 rfl (lv_at hl 0 rfl) ?_
      refine lv_iload (pc := 15) hx hb dX2_atRisk_15 (lv_at hl 4 rfl) ?_
      refine lv_iload_n (pc := 17) hx hb dX2_atRisk_17 rfl (lv_at hl 1 rfl) ?_
      refine rd_V (pc := 18) hx hb hml hown hT hK (c_X2_isIn D cI cJ l ad n st hr ca pcs fr lv k ts th sp hv pr hc hU (z2) u (by omega) (by omega) (S) (by omega)) ca_X2_isIn tw_159 hP 1 2 rfl rfl rfl ⟨Nat.le_of_ble_eq_true rfl, Nat.le_of_ble_eq_true rfl⟩ rfl hl.1 (As := [.int (zi (z2)), .int (zi (S))]) (rest := []) rfl (Nat.le_of_ble_eq_true rfl) ⟨Nat.le_of_ble_eq_true rfl, Nat.le_of_ble_eq_true rfl⟩ dX2_atRisk_18 ?_
      refine z_ifB_eq (tgt := 38) (pc := 21) hx hb dX2_atRisk_21 (by decide) (fun c_3 => ?_) (fun c_3 => ?_)
      · refine lv_iinc (v := zi (z2 + 1)) (lv' := [(4, .int (zi ((z2 + 1)))), (0, .ref (ad 1)), (1, .int (zi (S))), (2, .int (zi (t))), (3, .int (zi (z1)))]) (pc := 38) hx hb dX2_atRisk_38 hl (k := 4) rfl (zi_add _ _) (by decide) rfl (fun ls hl => ?_)
        refine lv_goto (tgt := 5) (pc := 41) hx hb dX2_atRisk_41 (by decide) ?_
        exact ih  _ _ (by rw [e1]; simp only [cRk]; split <;> omega) (by rw [e2]; rfl) ls (lv_sub hl [1, 2, 3, 4, 0] rfl)
      · refine lv_aload_n (pc := 24) hx hb dX2_atRisk_24 rfl (lv_at hl 0 rfl) ?_
        refine va_get (D := D) (cl := vwCl) (ci := 2) (v := .ref (ad 7)) (C := RX2) (T := TX2) (N := 4) (pc := 25) hx hb hT inT2 hown hK.1 hP 1 rfl rfl 1 (by decide) (hT _ tw_23) (fun _ h9 => h9) rfl dX2_atRisk_25 ?_
        refine lv_iload (pc := 28) hx hb dX2_atRisk_28 (lv_at hl 4 rfl) ?_
        refine z_iald (pc := 30) hx hb hK hP 7 (u) (f := hr) rfl (by omega) (by omega) (by omega) dX2_atRisk_30 ?_
        have r_4 := hhr (u)
        refine lv_iload_n (pc := 31) hx hb dX2_atRisk_31 rfl (lv_at hl 2 rfl) ?_
        refine z_icmp_lt (tgt := 38) (pc := 32) hx hb dX2_atRisk_32 (by decide) (by omega) (by omega) (fun c_5 => ?_) (fun c_5 => ?_)
        · refine lv_iinc (v := zi (z2 + 1)) (lv' := [(4, .int (zi ((z2 + 1)))), (0, .ref (ad 1)), (1, .int (zi (S))), (2, .int (zi (t))), (3, .int (zi (z1)))]) (pc := 38) hx hb dX2_atRisk_38 hl (k := 4) rfl (zi_add _ _) (by decide) rfl (fun ls hl => ?_)
          refine lv_goto (tgt := 5) (pc := 41) hx hb dX2_atRisk_41 (by decide) ?_
          exact ih  _ _ (by rw [e1]; simp only [cRk]; split <;> omega) (by rw [e2]; rfl) ls (lv_sub hl [1, 2, 3, 4, 0] rfl)
        · refine lv_iinc (v := zi (z1 + 1)) (lv' := [(3, .int (zi ((z1 + 1)))), (0, .ref (ad 1)), (1, .int (zi (S))), (2, .int (zi (t))), (4, .int (zi (z2)))]) (pc := 35) hx hb dX2_atRisk_35 hl (k := 3) rfl (zi_add _ _) (by decide) rfl (fun ls hl => ?_)
          refine lv_iinc (v := zi (z2 + 1)) (lv' := [(4, .int (zi ((z2 + 1)))), (3, .int (zi ((z1 + 1)))), (0, .ref (ad 1)), (1, .int (zi (S))), (2, .int (zi (t)))]) (pc := 38) hx hb dX2_atRisk_38 hl (k := 4) rfl (zi_add _ _) (by decide) rfl (fun ls hl => ?_)
          refine lv_goto (tgt := 5) (pc := 41) hx hb dX2_atRisk_41 (by decide) ?_
          exact ih  _ _ (by rw [e1]; simp only [cRk]; split <;> omega) (by rw [e2]; rfl) ls (lv_sub hl [2, 3, 4, 1, 0] rfl)
  refine z_iconst (pc := 0) hx hb dX2_atRisk_0 ?_
  refine lv_istore_n (lv' := [(3, .int (zi (0))), (0, .ref (ad 1)), (1, .int (zi (S))), (2, .int (zi (t)))]) (pc := 1) hx hb dX2_atRisk_1 rfl hl (by decide) rfl (fun ls hl => ?_)
  refine z_iconst (pc := 2) hx hb dX2_atRisk_2 ?_
  refine lv_istore (lv' := [(4, .int (zi (0))), (3, .int (zi (0))), (0, .ref (ad 1)), (1, .int (zi (S))), (2, .int (zi (t)))]) (pc := 3) hx hb dX2_atRisk_3 hl (by decide) rfl (fun ls hl => ?_)
  exact loop 0 (by omega) _ _ (by rfl) (by rfl) ls (lv_sub hl [2, 3, 4, 1, 0] rfl)

set_option maxHeartbeats 4000000 in
set_option maxRecDepth 100000 in
theorem c_X2_failedAt (D : va_G) (cI cJ : ClassId) (l : Launch) (ad : Nat → Nat) (n : Int) (st hr ca : Nat → Int) (pcs : Int) (fr lv : Nat → Int) (k : Int) (ts th sp hv : Nat → Int) (pr hc : Int) (hU : VU n st hr ca) (S : Int) (hS0 : 0 ≤ S ∧ S ≤ 15) (b : Int) (r_b : -1 ≤ b ∧ b ≤ 2) (t : Int) (r_t : -2147483648 ≤ t ∧ t ≤ 2147483647) : RD D cI cJ l yX2_failedAt cX2_failedAt 6 (some .int) 2 45 [.ref (ad 1), .int (zi (S)), .int (zi (b)), .int (zi (t))] (wX ad cI cJ n st hr ca pcs fr lv k ts th sp hv pr hc) (.int (zi (cFl st hr ca S b t n.toNat))) := by
  refine RD.of (by decide) (Nat.le_of_ble_eq_true rfl) ?_
  intro p e s m args below meth c hx hb hrt hml hown hT hlk hK hP ls hl
  replace hl : lv_has ls 6 [(0, .ref (ad 1)), (1, .int (zi (S))), (2, .int (zi (b))), (3, .int (zi (t)))] := hl
  obtain ⟨hn, hst, hhr, hh1, hca⟩ := id hU
  have loop : ∀ u : Nat, u ≤ n.toNat → ∀ (z1 z2 : Int), (z1 = cFl st hr ca S b t u) → (z2 = (u : Int)) → ∀ ls : Array Slot, lv_has ls 6 [(0, .ref (ad 1)), (1, .int (zi (S))), (2, .int (zi (b))), (3, .int (zi (t))), (4, .int (zi (z1))), (5, .int (zi (z2)))] → W p l e (RM 2 45) s m args below meth c s.heap [] 0 0 (MQ below (QR (.int (zi (cFl st hr ca S b t n.toNat))) s.heap) args s 0 0 (fun _ => False)) (F0 m 6 ls []) := by
    refine lp_up (fun u => ∀ (z1 z2 : Int), (z1 = cFl st hr ca S b t u) → (z2 = (u : Int)) → ∀ ls : Array Slot, lv_has ls 6 [(0, .ref (ad 1)), (1, .int (zi (S))), (2, .int (zi (b))), (3, .int (zi (t))), (4, .int (zi (z1))), (5, .int (zi (z2)))] → W p l e (RM 2 45) s m args below meth c s.heap [] 0 0 (MQ below (QR (.int (zi (cFl st hr ca S b t n.toNat))) s.heap) args s 0 0 (fun _ => False)) (F0 m 6 ls [])) (n.toNat) ?_ ?_
    · intro z1 z2 e1 e2 ls hl
      refine lv_iload (pc := 6) hx hb dX2_failedAt_6 (lv_at hl 5 rfl) ?_
      refine lv_aload_n (pc := 8) hx hb dX2_failedAt_8 rfl (lv_at hl 0 rfl) ?_
      refine va_get (D := D) (cl := vwCl) (ci := 2) (v := .int (zi (n))) (C := RX2) (T := TX2) (N := 4) (pc := 9) hx hb hT inT2 hown hK.1 hP 1 rfl rfl 3 (by decide) (hT _ tw_27) (fun _ h9 => h9) rfl dX2_failedAt_9 ?_
      refine z_icmp_ge (tgt := 46) (pc := 12) hx hb dX2_failedAt_12 (by decide) (by omega) (by omega) (fun c_1 => ?_) (fun c_1 => absurd c_1 (by omega))
      refine lv_iload (pc := 46) hx hb dX2_failedAt_46 (lv_at hl 4 rfl) ?_
      exact rd_iret hx hb hrt hlk dX2_failedAt_48 (by rw [e1])
    · intro u hu ih z1 z2 e1 e2 ls hl
      refine lv_iload (pc := 6) hx hb dX2_failedAt_6 (lv_at hl 5 rfl) ?_
      refine lv_aload_n (pc := 8) hx hb dX2_failedAt_8 rfl (lv_at hl 0 rfl) ?_
      refine va_get (D := D) (cl := vwCl) (ci := 2) (v := .int (zi (n))) (C := RX2) (T := TX2) (N := 4) (pc := 9) hx hb hT inT2 hown hK.1 hP 1 rfl rfl 3 (by decide) (hT _ tw_27) (fun _ h9 => h9) rfl dX2_failedAt_9 ?_
      refine z_icmp_ge (tgt := 46) (pc := 12) hx hb dX2_failedAt_12 (by decide) (by omega) (by omega) (fun c_2 => absurd c_2 (by omega)) (fun c_2 => ?_)
      refine lv_aload_n (pc := 15) hx hb dX2_failedAt_15 rfl (lv_at hl 0 rfl) ?_
      refine lv_iload (pc := 16) hx hb dX2_failedAt_16 (lv_at hl 5 rfl) ?_
      refine lv_iload_n (pc := 18) hx hb dX2_failedAt_18 rfl (lv_at hl 1 rfl) ?_
      refine lv_iload_n (pc := 19) hx hb dX2_failedAt_19 rfl (lv_at hl 2 rfl) ?_
      refine rd_V (pc := 20) hx hb hml hown hT hK (c_X2_hasFailed D cI cJ l ad n st hr ca pcs fr lv k ts th sp hv pr hc hU (z2) u (by omega) (by omega) (S) (by omega) (b) (by omega)) ca_X2_hasFailed tw_176 hP 1 2 rfl rfl rfl ⟨Nat.le_of_ble_eq_true rfl, Nat.le_of_ble_eq_true rfl⟩ rfl hl.1 (As := [.int (zi (z2)), .int (zi (S)), .int (zi (b))]) (rest := []) rfl (Nat.le_of_ble_eq_true rfl) ⟨Nat.le_of_ble_eq_true rfl, Nat.le_of_ble_eq_true rfl⟩ dX2_failedAt_20 ?_
      refine z_ifB_eq (tgt := 40) (pc := 23) hx hb dX2_failedAt_23 (by decide) (fun c_3 => ?_) (fun c_3 => ?_)
      · refine lv_iinc (v := zi (z2 + 1)) (lv' := [(5, .int (zi ((z2 + 1)))), (0, .ref (ad 1)), (1, .int (zi (S))), (2, .int (zi (b))), (3, .int (zi (t))), (4, .int (zi (z1)))]) (pc := 40) hx hb dX2_failedAt_40 hl (k := 5) rfl (zi_add _ _) (by decide) rfl (fun ls hl => ?_)
        refine lv_goto (tgt := 6) (pc := 43) hx hb dX2_failedAt_43 (by decide) ?_
        exact ih  _ _ (by rw [e1]; simp only [cFl]; split <;> omega) (by rw [e2]; rfl) ls (lv_sub hl [1, 2, 3, 4, 5, 0] rfl)
      · refine lv_aload_n (pc := 26) hx hb dX2_failedAt_26 rfl (lv_at hl 0 rfl) ?_
        refine va_get (D := D) (cl := vwCl) (ci := 2) (v := .ref (ad 7)) (C := RX2) (T := TX2) (N := 4) (pc := 27) hx hb hT inT2 hown hK.1 hP 1 rfl rfl 1 (by decide) (hT _ tw_23) (fun _ h9 => h9) rfl dX2_failedAt_27 ?_
        refine lv_iload (pc := 30) hx hb dX2_failedAt_30 (lv_at hl 5 rfl) ?_
        refine z_iald (pc := 32) hx hb hK hP 7 (u) (f := hr) rfl (by omega) (by omega) (by omega) dX2_failedAt_32 ?_
        have r_4 := hhr (u)
        refine lv_iload_n (pc := 33) hx hb dX2_failedAt_33 rfl (lv_at hl 3 rfl) ?_
        refine z_icmp_ne (tgt := 40) (pc := 34) hx hb dX2_failedAt_34 (by decide) (by omega) (by omega) (fun c_5 => ?_) (fun c_5 => ?_)
        · refine lv_iinc (v := zi (z2 + 1)) (lv' := [(5, .int (zi ((z2 + 1)))), (0, .ref (ad 1)), (1, .int (zi (S))), (2, .int (zi (b))), (3, .int (zi (t))), (4, .int (zi (z1)))]) (pc := 40) hx hb dX2_failedAt_40 hl (k := 5) rfl (zi_add _ _) (by decide) rfl (fun ls hl => ?_)
          refine lv_goto (tgt := 6) (pc := 43) hx hb dX2_failedAt_43 (by decide) ?_
          exact ih  _ _ (by rw [e1]; simp only [cFl]; split <;> omega) (by rw [e2]; rfl) ls (lv_sub hl [1, 2, 3, 4, 5, 0] rfl)
        · refine lv_iinc (v := zi (z1 + 1)) (lv' := [(4, .int (zi ((z1 + 1)))), (0, .ref (ad 1)), (1, .int (zi (S))), (2, .int (zi (b))), (3, .int (zi (t))), (5, .int (zi (z2)))]) (pc := 37) hx hb dX2_failedAt_37 hl (k := 4) rfl (zi_add _ _) (by decide) rfl (fun ls hl => ?_)
          refine lv_iinc (v := zi (z2 + 1)) (lv' := [(5, .int (zi ((z2 + 1)))), (4, .int (zi ((z1 + 1)))), (0, .ref (ad 1)), (1, .int (zi (S))), (2, .int (zi (b))), (3, .int (zi (t)))]) (pc := 40) hx hb dX2_failedAt_40 hl (k := 5) rfl (zi_add _ _) (by decide) rfl (fun ls hl => ?_)
          refine lv_goto (tgt := 6) (pc := 43) hx hb dX2_failedAt_43 (by decide) ?_
          exact ih  _ _ (by rw [e1]; simp only [cFl]; split <;> omega) (by rw [e2]; rfl) ls (lv_sub hl [2, 3, 4, 5, 1, 0] rfl)
  refine z_iconst (pc := 0) hx hb dX2_failedAt_0 ?_
  refine lv_istore (lv' := [(4, .int (zi (0))), (0, .ref (ad 1)), (1, .int (zi (S))), (2, .int (zi (b))), (3, .int (zi (t)))]) (pc := 1) hx hb dX2_failedAt_1 hl (by decide) rfl (fun ls hl => ?_)
  refine z_iconst (pc := 3) hx hb dX2_failedAt_3 ?_
  refine lv_istore (lv' := [(5, .int (zi (0))), (4, .int (zi (0))), (0, .ref (ad 1)), (1, .int (zi (S))), (2, .int (zi (b))), (3, .int (zi (t)))]) (pc := 4) hx hb dX2_failedAt_4 hl (by decide) rfl (fun ls hl => ?_)
  exact loop 0 (by omega) _ _ (by rfl) (by rfl) ls (lv_sub hl [2, 3, 4, 5, 1, 0] rfl)

set_option maxHeartbeats 4000000 in
set_option maxRecDepth 100000 in
theorem c_X2_nextFailure (D : va_G) (cI cJ : ClassId) (l : Launch) (ad : Nat → Nat) (n : Int) (st hr ca : Nat → Int) (pcs : Int) (fr lv : Nat → Int) (k : Int) (ts th sp hv : Nat → Int) (pr hc : Int) (hU : VU n st hr ca) (S : Int) (hS0 : 0 ≤ S ∧ S ≤ 15) (b : Int) (r_b : -1 ≤ b ∧ b ≤ 2) (t : Int) (r_t : -2147483648 ≤ t ∧ t ≤ 2147483647) : RD D cI cJ l yX2_nextFailure cX2_nextFailure 6 (some .int) 2 45 [.ref (ad 1), .int (zi (S)), .int (zi (b)), .int (zi (t))] (wX ad cI cJ n st hr ca pcs fr lv k ts th sp hv pr hc) (.int (zi (cNx st hr ca S b t n.toNat))) := by
  refine RD.of (by decide) (Nat.le_of_ble_eq_true rfl) ?_
  intro p e s m args below meth c hx hb hrt hml hown hT hlk hK hP ls hl
  replace hl : lv_has ls 6 [(0, .ref (ad 1)), (1, .int (zi (S))), (2, .int (zi (b))), (3, .int (zi (t)))] := hl
  obtain ⟨hn, hst, hhr, hh1, hca⟩ := id hU
  have loop : ∀ u : Nat, u ≤ n.toNat → ∀ (z1 z2 : Int), (z1 = cNx st hr ca S b t u) → (z2 = (u : Int)) → ∀ ls : Array Slot, lv_has ls 6 [(0, .ref (ad 1)), (1, .int (zi (S))), (2, .int (zi (b))), (3, .int (zi (t))), (4, .int (zi (z1))), (5, .int (zi (z2)))] → W p l e (RM 2 45) s m args below meth c s.heap [] 0 0 (MQ below (QR (.int (zi (cNx st hr ca S b t n.toNat))) s.heap) args s 0 0 (fun _ => False)) (F0 m 6 ls []) := by
    refine lp_up (fun u => ∀ (z1 z2 : Int), (z1 = cNx st hr ca S b t u) → (z2 = (u : Int)) → ∀ ls : Array Slot, lv_has ls 6 [(0, .ref (ad 1)), (1, .int (zi (S))), (2, .int (zi (b))), (3, .int (zi (t))), (4, .int (zi (z1))), (5, .int (zi (z2)))] → W p l e (RM 2 45) s m args below meth c s.heap [] 0 0 (MQ below (QR (.int (zi (cNx st hr ca S b t n.toNat))) s.heap) args s 0 0 (fun _ => False)) (F0 m 6 ls [])) (n.toNat) ?_ ?_
    · intro z1 z2 e1 e2 ls hl
      have hcn := cNx_rng (st := st) (ca := ca) (S := S) (b := b) (t := t) hhr n.toNat
      refine lv_iload (pc := 6) hx hb dX2_nextFailure_6 (lv_at hl 5 rfl) ?_
      refine lv_aload_n (pc := 8) hx hb dX2_nextFailure_8 rfl (lv_at hl 0 rfl) ?_
      refine va_get (D := D) (cl := vwCl) (ci := 2) (v := .int (zi (n))) (C := RX2) (T := TX2) (N := 4) (pc := 9) hx hb hT inT2 hown hK.1 hP 1 rfl rfl 3 (by decide) (hT _ tw_27) (fun _ h9 => h9) rfl dX2_nextFailure_9 ?_
      refine z_icmp_ge (tgt := 70) (pc := 12) hx hb dX2_nextFailure_12 (by decide) (by omega) (by omega) (fun c_1 => ?_) (fun c_1 => absurd c_1 (by omega))
      refine lv_iload (pc := 70) hx hb dX2_nextFailure_70 (lv_at hl 4 rfl) ?_
      exact rd_iret hx hb hrt hlk dX2_nextFailure_72 (by rw [e1])
    · intro u hu ih z1 z2 e1 e2 ls hl
      have hcn := cNx_rng (st := st) (ca := ca) (S := S) (b := b) (t := t) hhr u
      refine lv_iload (pc := 6) hx hb dX2_nextFailure_6 (lv_at hl 5 rfl) ?_
      refine lv_aload_n (pc := 8) hx hb dX2_nextFailure_8 rfl (lv_at hl 0 rfl) ?_
      refine va_get (D := D) (cl := vwCl) (ci := 2) (v := .int (zi (n))) (C := RX2) (T := TX2) (N := 4) (pc := 9) hx hb hT inT2 hown hK.1 hP 1 rfl rfl 3 (by decide) (hT _ tw_27) (fun _ h9 => h9) rfl dX2_nextFailure_9 ?_
      refine z_icmp_ge (tgt := 70) (pc := 12) hx hb dX2_nextFailure_12 (by decide) (by omega) (by omega) (fun c_2 => absurd c_2 (by omega)) (fun c_2 => ?_)
      refine lv_aload_n (pc := 15) hx hb dX2_nextFailure_15 rfl (lv_at hl 0 rfl) ?_
      refine lv_iload (pc := 16) hx hb dX2_nextFailure_16 (lv_at hl 5 rfl) ?_
      refine lv_iload_n (pc := 18) hx hb dX2_nextFailure_18 rfl (lv_at hl 1 rfl) ?_
      refine lv_iload_n (pc := 19) hx hb dX2_nextFailure_19 rfl (lv_at hl 2 rfl) ?_
      refine rd_V (pc := 20) hx hb hml hown hT hK (c_X2_hasFailed D cI cJ l ad n st hr ca pcs fr lv k ts th sp hv pr hc hU (z2) u (by omega) (by omega) (S) (by omega) (b) (by omega)) ca_X2_hasFailed tw_176 hP 1 2 rfl rfl rfl ⟨Nat.le_of_ble_eq_true rfl, Nat.le_of_ble_eq_true rfl⟩ rfl hl.1 (As := [.int (zi (z2)), .int (zi (S)), .int (zi (b))]) (rest := []) rfl (Nat.le_of_ble_eq_true rfl) ⟨Nat.le_of_ble_eq_true rfl, Nat.le_of_ble_eq_true rfl⟩ dX2_nextFailure_20 ?_
      refine z_ifB_eq (tgt := 64) (pc := 23) hx hb dX2_nextFailure_23 (by decide) (fun c_3 => ?_) (fun c_3 => ?_)
      · refine lv_iinc (v := zi (z2 + 1)) (lv' := [(5, .int (zi ((z2 + 1)))), (0, .ref (ad 1)), (1, .int (zi (S))), (2, .int (zi (b))), (3, .int (zi (t))), (4, .int (zi (z1)))]) (pc := 64) hx hb dX2_nextFailure_64 hl (k := 5) rfl (zi_add _ _) (by decide) rfl (fun ls hl => ?_)
        refine lv_goto (tgt := 6) (pc := 67) hx hb dX2_nextFailure_67 (by decide) ?_
        exact ih  _ _ (by simp only [cNx]; rw [← e1]; split <;> first | rfl | omega) (by rw [e2]; rfl) ls (lv_sub hl [1, 2, 3, 4, 5, 0] rfl)
      · refine lv_aload_n (pc := 26) hx hb dX2_nextFailure_26 rfl (lv_at hl 0 rfl) ?_
        refine va_get (D := D) (cl := vwCl) (ci := 2) (v := .ref (ad 7)) (C := RX2) (T := TX2) (N := 4) (pc := 27) hx hb hT inT2 hown hK.1 hP 1 rfl rfl 1 (by decide) (hT _ tw_23) (fun _ h9 => h9) rfl dX2_nextFailure_27 ?_
        refine lv_iload (pc := 30) hx hb dX2_nextFailure_30 (lv_at hl 5 rfl) ?_
        refine z_iald (pc := 32) hx hb hK hP 7 (u) (f := hr) rfl (by omega) (by omega) (by omega) dX2_nextFailure_32 ?_
        have r_4 := hhr (u)
        refine lv_iload_n (pc := 33) hx hb dX2_nextFailure_33 rfl (lv_at hl 3 rfl) ?_
        refine z_icmp_le (tgt := 64) (pc := 34) hx hb dX2_nextFailure_34 (by decide) (by omega) (by omega) (fun c_5 => ?_) (fun c_5 => ?_)
        · refine lv_iinc (v := zi (z2 + 1)) (lv' := [(5, .int (zi ((z2 + 1)))), (0, .ref (ad 1)), (1, .int (zi (S))), (2, .int (zi (b))), (3, .int (zi (t))), (4, .int (zi (z1)))]) (pc := 64) hx hb dX2_nextFailure_64 hl (k := 5) rfl (zi_add _ _) (by decide) rfl (fun ls hl => ?_)
          refine lv_goto (tgt := 6) (pc := 67) hx hb dX2_nextFailure_67 (by decide) ?_
          exact ih  _ _ (by simp only [cNx]; rw [← e1]; split <;> first | rfl | omega) (by rw [e2]; rfl) ls (lv_sub hl [1, 2, 3, 4, 5, 0] rfl)
        · refine lv_iload (pc := 37) hx hb dX2_nextFailure_37 (lv_at hl 4 rfl) ?_
          refine z_iconst (pc := 39) hx hb dX2_nextFailure_39 ?_
          refine z_icmp_eq (tgt := 55) (pc := 40) hx hb dX2_nextFailure_40 (by decide) (by omega) (by omega) (fun c_6 => ?_) (fun c_6 => ?_)
          · refine lv_aload_n (pc := 55) hx hb dX2_nextFailure_55 rfl (lv_at hl 0 rfl) ?_
            refine va_get (D := D) (cl := vwCl) (ci := 2) (v := .ref (ad 7)) (C := RX2) (T := TX2) (N := 4) (pc := 56) hx hb hT inT2 hown hK.1 hP 1 rfl rfl 1 (by decide) (hT _ tw_23) (fun _ h9 => h9) rfl dX2_nextFailure_56 ?_
            refine lv_iload (pc := 59) hx hb dX2_nextFailure_59 (lv_at hl 5 rfl) ?_
            refine z_iald (pc := 61) hx hb hK hP 7 (u) (f := hr) rfl (by omega) (by omega) (by omega) dX2_nextFailure_61 ?_
            have r_7 := hhr (u)
            refine lv_istore (lv' := [(4, .int (zi ((hr (u))))), (0, .ref (ad 1)), (1, .int (zi (S))), (2, .int (zi (b))), (3, .int (zi (t))), (5, .int (zi (z2)))]) (pc := 62) hx hb dX2_nextFailure_62 hl (by decide) rfl (fun ls hl => ?_)
            refine lv_iinc (v := zi (z2 + 1)) (lv' := [(5, .int (zi ((z2 + 1)))), (4, .int (zi ((hr (u))))), (0, .ref (ad 1)), (1, .int (zi (S))), (2, .int (zi (b))), (3, .int (zi (t)))]) (pc := 64) hx hb dX2_nextFailure_64 hl (k := 5) rfl (zi_add _ _) (by decide) rfl (fun ls hl => ?_)
            refine lv_goto (tgt := 6) (pc := 67) hx hb dX2_nextFailure_67 (by decide) ?_
            exact ih  _ _ (by simp only [cNx]; rw [← e1]; split <;> first | rfl | omega) (by rw [e2]; rfl) ls (lv_sub hl [2, 3, 4, 5, 1, 0] rfl)
          · refine lv_aload_n (pc := 43) hx hb dX2_nextFailure_43 rfl (lv_at hl 0 rfl) ?_
            refine va_get (D := D) (cl := vwCl) (ci := 2) (v := .ref (ad 7)) (C := RX2) (T := TX2) (N := 4) (pc := 44) hx hb hT inT2 hown hK.1 hP 1 rfl rfl 1 (by decide) (hT _ tw_23) (fun _ h9 => h9) rfl dX2_nextFailure_44 ?_
            refine lv_iload (pc := 47) hx hb dX2_nextFailure_47 (lv_at hl 5 rfl) ?_
            refine z_iald (pc := 49) hx hb hK hP 7 (u) (f := hr) rfl (by omega) (by omega) (by omega) dX2_nextFailure_49 ?_
            have r_8 := hhr (u)
            refine lv_iload (pc := 50) hx hb dX2_nextFailure_50 (lv_at hl 4 rfl) ?_
            refine z_icmp_ge (tgt := 64) (pc := 52) hx hb dX2_nextFailure_52 (by decide) (by omega) (by omega) (fun c_9 => ?_) (fun c_9 => ?_)
            · refine lv_iinc (v := zi (z2 + 1)) (lv' := [(5, .int (zi ((z2 + 1)))), (0, .ref (ad 1)), (1, .int (zi (S))), (2, .int (zi (b))), (3, .int (zi (t))), (4, .int (zi (z1)))]) (pc := 64) hx hb dX2_nextFailure_64 hl (k := 5) rfl (zi_add _ _) (by decide) rfl (fun ls hl => ?_)
              refine lv_goto (tgt := 6) (pc := 67) hx hb dX2_nextFailure_67 (by decide) ?_
              exact ih  _ _ (by simp only [cNx]; rw [← e1]; split <;> first | rfl | omega) (by rw [e2]; rfl) ls (lv_sub hl [1, 2, 3, 4, 5, 0] rfl)
            · refine lv_aload_n (pc := 55) hx hb dX2_nextFailure_55 rfl (lv_at hl 0 rfl) ?_
              refine va_get (D := D) (cl := vwCl) (ci := 2) (v := .ref (ad 7)) (C := RX2) (T := TX2) (N := 4) (pc := 56) hx hb hT inT2 hown hK.1 hP 1 rfl rfl 1 (by decide) (hT _ tw_23) (fun _ h9 => h9) rfl dX2_nextFailure_56 ?_
              refine lv_iload (pc := 59) hx hb dX2_nextFailure_59 (lv_at hl 5 rfl) ?_
              refine z_iald (pc := 61) hx hb hK hP 7 (u) (f := hr) rfl (by omega) (by omega) (by omega) dX2_nextFailure_61 ?_
              have r_10 := hhr (u)
              refine lv_istore (lv' := [(4, .int (zi ((hr (u))))), (0, .ref (ad 1)), (1, .int (zi (S))), (2, .int (zi (b))), (3, .int (zi (t))), (5, .int (zi (z2)))]) (pc := 62) hx hb dX2_nextFailure_62 hl (by decide) rfl (fun ls hl => ?_)
              refine lv_iinc (v := zi (z2 + 1)) (lv' := [(5, .int (zi ((z2 + 1)))), (4, .int (zi ((hr (u))))), (0, .ref (ad 1)), (1, .int (zi (S))), (2, .int (zi (b))), (3, .int (zi (t)))]) (pc := 64) hx hb dX2_nextFailure_64 hl (k := 5) rfl (zi_add _ _) (by decide) rfl (fun ls hl => ?_)
              refine lv_goto (tgt := 6) (pc := 67) hx hb dX2_nextFailure_67 (by decide) ?_
              exact ih  _ _ (by simp only [cNx]; rw [← e1]; split <;> first | rfl | omega) (by rw [e2]; rfl) ls (lv_sub hl [2, 3, 4, 5, 1, 0] rfl)
  refine z_iconst (pc := 0) hx hb dX2_nextFailure_0 ?_
  refine lv_istore (lv' := [(4, .int (zi (-1))), (0, .ref (ad 1)), (1, .int (zi (S))), (2, .int (zi (b))), (3, .int (zi (t)))]) (pc := 1) hx hb dX2_nextFailure_1 hl (by decide) rfl (fun ls hl => ?_)
  refine z_iconst (pc := 3) hx hb dX2_nextFailure_3 ?_
  refine lv_istore (lv' := [(5, .int (zi (0))), (4, .int (zi (-1))), (0, .ref (ad 1)), (1, .int (zi (S))), (2, .int (zi (b))), (3, .int (zi (t)))]) (pc := 4) hx hb dX2_nextFailure_4 hl (by decide) rfl (fun ls hl => ?_)
  exact loop 0 (by omega) _ _ (by rfl) (by rfl) ls (lv_sub hl [2, 3, 4, 5, 1, 0] rfl)
