theorem mul_rng {a b A B : Int} (ha : 0 ≤ a ∧ a ≤ A) (hb : 0 ≤ b ∧ b ≤ B) : 0 ≤ a * b ∧ a * b ≤ A * B := ⟨Int.mul_nonneg ha.1 hb.1, Int.mul_le_mul ha.2 hb.2 hb.1 (by omega)⟩
def useZ (st hr sp : Nat → Int) (u : Nat) : Int := hr u * sp (st u).toNat / 10
def shareZ (st hr ca sp : Nat → Int) (w : Int) (u : Nat) : Int :=
  if w = 0 then 1 else if w = 1 then (if ca u = -1 then 0 else 1) else if w = 2 then (if ca u = -1 then 1 else 0) else if w = 6 then hr u else if w = 7 then useZ st hr sp u else (if ca u = w - 3 then 1 else 0)
def cCt (st hr ca sp : Nat → Int) (S w : Int) : Nat → Int
  | 0 => 0
  | u + 1 => cCt st hr ca sp S w u + (if bitS S (st u) then shareZ st hr ca sp w u else 0)
def toldZ (n : Int) (st hr ca sp : Nat → Int) (z w : Int) : Int :=
  if 0 ≤ z ∧ z ≤ n - 1 then (if w = 0 then st z.toNat else if w = 1 then hr z.toNat else if w = 2 then ca z.toNat else if w = 3 then useZ st hr sp z.toNat else -1002) else -1001
def countZ (n : Int) (st hr ca sp : Nat → Int) (S w : Int) : Int :=
  if (0 ≤ S ∧ S ≤ 15) ∧ (0 ≤ w ∧ w ≤ 7) then cCt st hr ca sp S w n.toNat else -1002
def riskZ (n : Int) (st hr : Nat → Int) (S t : Int) : Int :=
  if (0 ≤ S ∧ S ≤ 15) ∧ (0 ≤ t ∧ t ≤ 500) then cRk st hr S t n.toNat else -1002

set_option maxHeartbeats 4000000 in
set_option maxRecDepth 100000 in
theorem c_X3_useHour (D : va_G) (cI cJ : ClassId) (l : Launch) (ad : Nat → Nat) (n : Int) (st hr ca : Nat → Int) (pcs : Int) (fr lv : Nat → Int) (k : Int) (ts th sp hv : Nat → Int) (pr hc : Int) (hU : VU n st hr ca) (hsp : ∀ j : Nat, j < 4 → 1 ≤ sp j ∧ sp j ≤ 1000) (z : Int) (u : Nat) (hz : z = (u : Int)) (hu : u < 12) : RD D cI cJ l yX3_useHour cX3_useHour 2 (some .int) 0 0 [.ref (ad 0), .int (zi (z))] (wX ad cI cJ n st hr ca pcs fr lv k ts th sp hv pr hc) (.int (zi (useZ st hr sp u))) := by
  subst hz
  refine RD.of (by decide) (Nat.le_of_ble_eq_true rfl) ?_
  intro p e s m args below meth c hx hb hrt hml hown hT hlk hK hP ls hl
  replace hl : lv_has ls 2 [(0, .ref (ad 0)), (1, .int (zi ((u : Int))))] := hl
  obtain ⟨hn, hst, hhr, hh1, hca⟩ := id hU
  refine lv_aload_n (pc := 0) hx hb dX3_useHour_0 rfl (lv_at hl 0 rfl) ?_
  refine va_get (D := D) (cl := vwCl) (ci := 3) (v := .ref (ad 1)) (C := RX3) (T := TX3) (N := 7) (pc := 1) hx hb hT inT3 hown hK.1 hP 0 rfl rfl 0 (by decide) (hT _ tw_75) (fun _ h9 => h9) rfl dX3_useHour_1 ?_
  refine va_get (D := D) (cl := vwCl) (ci := 2) (v := .ref (ad 7)) (C := RX2) (T := TX2) (N := 4) (pc := 4) hx hb hT inT2 hown hK.1 hP 1 rfl rfl 1 (by decide) (hT _ tw_24) (fun _ h9 => h9) rfl dX3_useHour_4 ?_
  refine lv_iload_n (pc := 7) hx hb dX3_useHour_7 rfl (lv_at hl 1 rfl) ?_
  refine z_iald (pc := 8) hx hb hK hP 7 (u) (f := hr) rfl (by omega) (by omega) (by omega) dX3_useHour_8 ?_
  have r_1 := hhr (u)
  refine lv_aload_n (pc := 9) hx hb dX3_useHour_9 rfl (lv_at hl 0 rfl) ?_
  refine va_get (D := D) (cl := vwCl) (ci := 3) (v := .ref (ad 4)) (C := RX3) (T := TX3) (N := 7) (pc := 10) hx hb hT inT3 hown hK.1 hP 0 rfl rfl 3 (by decide) (hT _ tw_78) (fun _ h9 => h9) rfl dX3_useHour_10 ?_
  refine lv_aload_n (pc := 13) hx hb dX3_useHour_13 rfl (lv_at hl 0 rfl) ?_
  refine va_get (D := D) (cl := vwCl) (ci := 3) (v := .ref (ad 1)) (C := RX3) (T := TX3) (N := 7) (pc := 14) hx hb hT inT3 hown hK.1 hP 0 rfl rfl 0 (by decide) (hT _ tw_75) (fun _ h9 => h9) rfl dX3_useHour_14 ?_
  refine va_get (D := D) (cl := vwCl) (ci := 2) (v := .ref (ad 6)) (C := RX2) (T := TX2) (N := 4) (pc := 17) hx hb hT inT2 hown hK.1 hP 1 rfl rfl 0 (by decide) (hT _ tw_22) (fun _ h9 => h9) rfl dX3_useHour_17 ?_
  refine lv_iload_n (pc := 20) hx hb dX3_useHour_20 rfl (lv_at hl 1 rfl) ?_
  refine z_iald (pc := 21) hx hb hK hP 6 (u) (f := st) rfl (by omega) (by omega) (by omega) dX3_useHour_21 ?_
  have r_2 := hst (u)
  refine z_iald (pc := 22) hx hb hK hP 4 (((st (u))).toNat) (f := sp) rfl (by omega) (by omega) (by omega) dX3_useHour_22 ?_
  have r_3 := hsp (((st (u))).toNat) (by omega)
  refine z_imul (pc := 23) hx hb dX3_useHour_23 ?_
  refine z_bipush (pc := 24) hx hb dX3_useHour_24 (by decide) ?_
  refine z_idiv (pc := 26) hx hb (by have h := mul_rng (a := hr u) (b := sp (st u).toNat) (A := 500) (B := 1000) (by omega) (by omega); omega) dX3_useHour_26 ?_
  exact rd_iret hx hb hrt hlk dX3_useHour_27 (rfl)

set_option maxHeartbeats 4000000 in
set_option maxRecDepth 100000 in
theorem c_X3_shareInCount (D : va_G) (cI cJ : ClassId) (l : Launch) (ad : Nat → Nat) (n : Int) (st hr ca : Nat → Int) (pcs : Int) (fr lv : Nat → Int) (k : Int) (ts th sp hv : Nat → Int) (pr hc : Int) (hU : VU n st hr ca) (hsp : ∀ j : Nat, j < 4 → 1 ≤ sp j ∧ sp j ≤ 1000) (z : Int) (u : Nat) (hz : z = (u : Int)) (hu : u < 12) (w : Int) (r_w : 0 ≤ w ∧ w ≤ 7) : RD D cI cJ l yX3_shareInCount cX3_shareInCount 4 (some .int) 1 21 [.ref (ad 0), .int (zi (z)), .int (zi (w))] (wX ad cI cJ n st hr ca pcs fr lv k ts th sp hv pr hc) (.int (zi (shareZ st hr ca sp w u))) := by
  subst hz
  refine RD.of (by decide) (Nat.le_of_ble_eq_true rfl) ?_
  intro p e s m args below meth c hx hb hrt hml hown hT hlk hK hP ls hl
  replace hl : lv_has ls 4 [(0, .ref (ad 0)), (1, .int (zi ((u : Int)))), (2, .int (zi (w)))] := hl
  obtain ⟨hn, hst, hhr, hh1, hca⟩ := id hU
  refine lv_aload_n (pc := 0) hx hb dX3_shareInCount_0 rfl (lv_at hl 0 rfl) ?_
  refine va_get (D := D) (cl := vwCl) (ci := 3) (v := .ref (ad 1)) (C := RX3) (T := TX3) (N := 7) (pc := 1) hx hb hT inT3 hown hK.1 hP 0 rfl rfl 0 (by decide) (hT _ tw_75) (fun _ h9 => h9) rfl dX3_shareInCount_1 ?_
  refine va_get (D := D) (cl := vwCl) (ci := 2) (v := .ref (ad 8)) (C := RX2) (T := TX2) (N := 4) (pc := 4) hx hb hT inT2 hown hK.1 hP 1 rfl rfl 2 (by decide) (hT _ tw_26) (fun _ h9 => h9) rfl dX3_shareInCount_4 ?_
  refine lv_iload_n (pc := 7) hx hb dX3_shareInCount_7 rfl (lv_at hl 1 rfl) ?_
  refine z_iald (pc := 8) hx hb hK hP 8 (u) (f := ca) rfl (by omega) (by omega) (by omega) dX3_shareInCount_8 ?_
  have r_1 := hca (u)
  refine lv_istore_n (lv' := [(3, .int (zi ((ca (u))))), (0, .ref (ad 0)), (1, .int (zi ((u : Int)))), (2, .int (zi (w)))]) (pc := 9) hx hb dX3_shareInCount_9 rfl hl (by decide) rfl (fun ls hl => ?_)
  refine lv_iload_n (pc := 10) hx hb dX3_shareInCount_10 rfl (lv_at hl 3 rfl) ?_
  rcases (show (w < 0 ∨ 7 < w) ∨ w = 0 ∨ w = 1 ∨ w = 2 ∨ w = 3 ∨ w = 4 ∨ w = 5 ∨ w = 6 ∨ w = 7 by omega) with q_2 | q_2 | q_2 | q_2 | q_2 | q_2 | q_2 | q_2 | q_2
  · exact absurd q_2 (by omega)
  · refine z_tabIn (tgt := 56) (pc := 11) hx hb (0) dX3_shareInCount_11 q_2 (by decide) (by decide) (by decide) rfl (by decide) ?_
    refine z_iconst (pc := 56) hx hb dX3_shareInCount_56 ?_
    exact rd_iret hx hb hrt hlk dX3_shareInCount_57 (by unfold shareZ; repeat (first | rw [if_pos (by omega)] | rw [if_neg (by omega)]))
  · refine z_tabIn (tgt := 58) (pc := 11) hx hb (1) dX3_shareInCount_11 q_2 (by decide) (by decide) (by decide) rfl (by decide) ?_
    refine lv_iload_n (pc := 58) hx hb dX3_shareInCount_58 rfl (lv_at hl 0 rfl) ?_
    refine z_iconst (pc := 59) hx hb dX3_shareInCount_59 ?_
    refine z_icmp_eq (tgt := 67) (pc := 60) hx hb dX3_shareInCount_60 (by decide) (by omega) (by omega) (fun c_3 => ?_) (fun c_3 => ?_)
    · refine z_iconst (pc := 67) hx hb dX3_shareInCount_67 ?_
      exact rd_iret hx hb hrt hlk dX3_shareInCount_68 (by unfold shareZ; repeat (first | rw [if_pos (by omega)] | rw [if_neg (by omega)]))
    · refine z_iconst (pc := 63) hx hb dX3_shareInCount_63 ?_
      refine lv_goto (tgt := 68) (pc := 64) hx hb dX3_shareInCount_64 (by decide) ?_
      exact rd_iret hx hb hrt hlk dX3_shareInCount_68 (by unfold shareZ; repeat (first | rw [if_pos (by omega)] | rw [if_neg (by omega)]))
  · refine z_tabIn (tgt := 69) (pc := 11) hx hb (2) dX3_shareInCount_11 q_2 (by decide) (by decide) (by decide) rfl (by decide) ?_
    refine lv_iload_n (pc := 69) hx hb dX3_shareInCount_69 rfl (lv_at hl 0 rfl) ?_
    refine z_iconst (pc := 70) hx hb dX3_shareInCount_70 ?_
    refine z_icmp_ne (tgt := 78) (pc := 71) hx hb dX3_shareInCount_71 (by decide) (by omega) (by omega) (fun c_4 => ?_) (fun c_4 => ?_)
    · refine z_iconst (pc := 78) hx hb dX3_shareInCount_78 ?_
      exact rd_iret hx hb hrt hlk dX3_shareInCount_79 (by unfold shareZ; repeat (first | rw [if_pos (by omega)] | rw [if_neg (by omega)]))
    · refine z_iconst (pc := 74) hx hb dX3_shareInCount_74 ?_
      refine lv_goto (tgt := 79) (pc := 75) hx hb dX3_shareInCount_75 (by decide) ?_
      exact rd_iret hx hb hrt hlk dX3_shareInCount_79 (by unfold shareZ; repeat (first | rw [if_pos (by omega)] | rw [if_neg (by omega)]))
  · refine z_tabIn (tgt := 96) (pc := 11) hx hb (3) dX3_shareInCount_11 q_2 (by decide) (by decide) (by decide) rfl (by decide) ?_
    refine lv_iload_n (pc := 96) hx hb dX3_shareInCount_96 rfl (lv_at hl 0 rfl) ?_
    refine lv_iload_n (pc := 97) hx hb dX3_shareInCount_97 rfl (lv_at hl 3 rfl) ?_
    refine z_iconst (pc := 98) hx hb dX3_shareInCount_98 ?_
    refine z_isub (pc := 99) hx hb dX3_shareInCount_99 ?_
    refine z_icmp_ne (tgt := 107) (pc := 100) hx hb dX3_shareInCount_100 (by decide) (by omega) (by omega) (fun c_5 => ?_) (fun c_5 => ?_)
    · refine z_iconst (pc := 107) hx hb dX3_shareInCount_107 ?_
      exact rd_iret hx hb hrt hlk dX3_shareInCount_108 (by unfold shareZ; repeat (first | rw [if_pos (by omega)] | rw [if_neg (by omega)]))
    · refine z_iconst (pc := 103) hx hb dX3_shareInCount_103 ?_
      refine lv_goto (tgt := 108) (pc := 104) hx hb dX3_shareInCount_104 (by decide) ?_
      exact rd_iret hx hb hrt hlk dX3_shareInCount_108 (by unfold shareZ; repeat (first | rw [if_pos (by omega)] | rw [if_neg (by omega)]))
  · refine z_tabIn (tgt := 96) (pc := 11) hx hb (4) dX3_shareInCount_11 q_2 (by decide) (by decide) (by decide) rfl (by decide) ?_
    refine lv_iload_n (pc := 96) hx hb dX3_shareInCount_96 rfl (lv_at hl 0 rfl) ?_
    refine lv_iload_n (pc := 97) hx hb dX3_shareInCount_97 rfl (lv_at hl 3 rfl) ?_
    refine z_iconst (pc := 98) hx hb dX3_shareInCount_98 ?_
    refine z_isub (pc := 99) hx hb dX3_shareInCount_99 ?_
    refine z_icmp_ne (tgt := 107) (pc := 100) hx hb dX3_shareInCount_100 (by decide) (by omega) (by omega) (fun c_6 => ?_) (fun c_6 => ?_)
    · refine z_iconst (pc := 107) hx hb dX3_shareInCount_107 ?_
      exact rd_iret hx hb hrt hlk dX3_shareInCount_108 (by unfold shareZ; repeat (first | rw [if_pos (by omega)] | rw [if_neg (by omega)]))
    · refine z_iconst (pc := 103) hx hb dX3_shareInCount_103 ?_
      refine lv_goto (tgt := 108) (pc := 104) hx hb dX3_shareInCount_104 (by decide) ?_
      exact rd_iret hx hb hrt hlk dX3_shareInCount_108 (by unfold shareZ; repeat (first | rw [if_pos (by omega)] | rw [if_neg (by omega)]))
  · refine z_tabIn (tgt := 96) (pc := 11) hx hb (5) dX3_shareInCount_11 q_2 (by decide) (by decide) (by decide) rfl (by decide) ?_
    refine lv_iload_n (pc := 96) hx hb dX3_shareInCount_96 rfl (lv_at hl 0 rfl) ?_
    refine lv_iload_n (pc := 97) hx hb dX3_shareInCount_97 rfl (lv_at hl 3 rfl) ?_
    refine z_iconst (pc := 98) hx hb dX3_shareInCount_98 ?_
    refine z_isub (pc := 99) hx hb dX3_shareInCount_99 ?_
    refine z_icmp_ne (tgt := 107) (pc := 100) hx hb dX3_shareInCount_100 (by decide) (by omega) (by omega) (fun c_7 => ?_) (fun c_7 => ?_)
    · refine z_iconst (pc := 107) hx hb dX3_shareInCount_107 ?_
      exact rd_iret hx hb hrt hlk dX3_shareInCount_108 (by unfold shareZ; repeat (first | rw [if_pos (by omega)] | rw [if_neg (by omega)]))
    · refine z_iconst (pc := 103) hx hb dX3_shareInCount_103 ?_
      refine lv_goto (tgt := 108) (pc := 104) hx hb dX3_shareInCount_104 (by decide) ?_
      exact rd_iret hx hb hrt hlk dX3_shareInCount_108 (by unfold shareZ; repeat (first | rw [if_pos (by omega)] | rw [if_neg (by omega)]))
  · refine z_tabIn (tgt := 80) (pc := 11) hx hb (6) dX3_shareInCount_11 q_2 (by decide) (by decide) (by decide) rfl (by decide) ?_
    refine lv_aload_n (pc := 80) hx hb dX3_shareInCount_80 rfl (lv_at hl 1 rfl) ?_
    refine va_get (D := D) (cl := vwCl) (ci := 3) (v := .ref (ad 1)) (C := RX3) (T := TX3) (N := 7) (pc := 81) hx hb hT inT3 hown hK.1 hP 0 rfl rfl 0 (by decide) (hT _ tw_75) (fun _ h9 => h9) rfl dX3_shareInCount_81 ?_
    refine va_get (D := D) (cl := vwCl) (ci := 2) (v := .ref (ad 7)) (C := RX2) (T := TX2) (N := 4) (pc := 84) hx hb hT inT2 hown hK.1 hP 1 rfl rfl 1 (by decide) (hT _ tw_24) (fun _ h9 => h9) rfl dX3_shareInCount_84 ?_
    refine lv_iload_n (pc := 87) hx hb dX3_shareInCount_87 rfl (lv_at hl 2 rfl) ?_
    refine z_iald (pc := 88) hx hb hK hP 7 (u) (f := hr) rfl (by omega) (by omega) (by omega) dX3_shareInCount_88 ?_
    have r_8 := hhr (u)
    exact rd_iret hx hb hrt hlk dX3_shareInCount_89 (by unfold shareZ; repeat (first | rw [if_pos (by omega)] | rw [if_neg (by omega)]))
  · refine z_tabIn (tgt := 90) (pc := 11) hx hb (7) dX3_shareInCount_11 q_2 (by decide) (by decide) (by decide) rfl (by decide) ?_
    refine lv_aload_n (pc := 90) hx hb dX3_shareInCount_90 rfl (lv_at hl 1 rfl) ?_
    refine lv_iload_n (pc := 91) hx hb dX3_shareInCount_91 rfl (lv_at hl 2 rfl) ?_
    refine rd_V (pc := 92) hx hb hml hown hT hK (c_X3_useHour D cI cJ l ad n st hr ca pcs fr lv k ts th sp hv pr hc hU hsp ((u : Int)) (u) (by omega) (by omega)) ca_X3_useHour tw_132 hP 0 3 rfl rfl rfl ⟨Nat.le_of_ble_eq_true rfl, Nat.le_of_ble_eq_true rfl⟩ rfl hl.1 (As := [.int (zi ((u : Int)))]) (rest := []) rfl (Nat.le_of_ble_eq_true rfl) ⟨Nat.le_of_ble_eq_true rfl, Nat.le_of_ble_eq_true rfl⟩ dX3_shareInCount_92 ?_
    exact rd_iret hx hb hrt hlk dX3_shareInCount_95 (by unfold shareZ; repeat (first | rw [if_pos (by omega)] | rw [if_neg (by omega)]))

set_option maxHeartbeats 4000000 in
set_option maxRecDepth 100000 in
theorem c_X3_told (D : va_G) (cI cJ : ClassId) (l : Launch) (ad : Nat → Nat) (n : Int) (st hr ca : Nat → Int) (pcs : Int) (fr lv : Nat → Int) (k : Int) (ts th sp hv : Nat → Int) (pr hc : Int) (hU : VU n st hr ca) (hsp : ∀ j : Nat, j < 4 → 1 ≤ sp j ∧ sp j ≤ 1000) (z : Int) (r_z : -2147483648 ≤ z ∧ z ≤ 2147483647) (w : Int) (r_w : -2147483648 ≤ w ∧ w ≤ 2147483647) : RD D cI cJ l yX3_told cX3_told 3 (some .int) 2 43 [.ref (ad 0), .int (zi (z)), .int (zi (w))] (wX ad cI cJ n st hr ca pcs fr lv k ts th sp hv pr hc) (.int (zi (toldZ n st hr ca sp z w))) := by
  refine RD.of (by decide) (Nat.le_of_ble_eq_true rfl) ?_
  intro p e s m args below meth c hx hb hrt hml hown hT hlk hK hP ls hl
  replace hl : lv_has ls 3 [(0, .ref (ad 0)), (1, .int (zi (z))), (2, .int (zi (w)))] := hl
  obtain ⟨hn, hst, hhr, hh1, hca⟩ := id hU
  refine lv_aload_n (pc := 0) hx hb dX3_told_0 rfl (lv_at hl 0 rfl) ?_
  refine va_get (D := D) (cl := vwCl) (ci := 3) (v := .ref (ad 1)) (C := RX3) (T := TX3) (N := 7) (pc := 1) hx hb hT inT3 hown hK.1 hP 0 rfl rfl 0 (by decide) (hT _ tw_75) (fun _ h9 => h9) rfl dX3_told_1 ?_
  refine lv_iload_n (pc := 4) hx hb dX3_told_4 rfl (lv_at hl 1 rfl) ?_
  refine rd_V (pc := 5) hx hb hml hown hT hK (c_X2_has D cI cJ l ad n st hr ca pcs fr lv k ts th sp hv pr hc (by omega) (z) (by omega)) ca_X2_has tw_123 hP 1 2 rfl rfl rfl ⟨Nat.le_of_ble_eq_true rfl, Nat.le_of_ble_eq_true rfl⟩ rfl hl.1 (As := [.int (zi (z))]) (rest := []) rfl (Nat.le_of_ble_eq_true rfl) ⟨Nat.le_of_ble_eq_true rfl, Nat.le_of_ble_eq_true rfl⟩ dX3_told_5 ?_
  refine z_ifB_ne (tgt := 15) (pc := 8) hx hb dX3_told_8 (by decide) (fun c_1 => ?_) (fun c_1 => ?_)
  · refine lv_iload_n (pc := 15) hx hb dX3_told_15 rfl (lv_at hl 2 rfl) ?_
    rcases (show (w < 0 ∨ 3 < w) ∨ w = 0 ∨ w = 1 ∨ w = 2 ∨ w = 3 by omega) with q_2 | q_2 | q_2 | q_2 | q_2
    · refine z_tabOut (tgt := 84) (pc := 16) hx hb dX3_told_16 (by omega) q_2 (by decide) ?_
      refine z_sipush (pc := 84) hx hb dX3_told_84 (by decide) ?_
      exact rd_iret hx hb hrt hlk dX3_told_87 (by unfold toldZ; repeat (first | rw [if_pos (by omega)] | rw [if_neg (by omega)]))
    · refine z_tabIn (tgt := 48) (pc := 16) hx hb (0) dX3_told_16 q_2 (by decide) (by decide) (by decide) rfl (by decide) ?_
      refine lv_aload_n (pc := 48) hx hb dX3_told_48 rfl (lv_at hl 0 rfl) ?_
      refine va_get (D := D) (cl := vwCl) (ci := 3) (v := .ref (ad 1)) (C := RX3) (T := TX3) (N := 7) (pc := 49) hx hb hT inT3 hown hK.1 hP 0 rfl rfl 0 (by decide) (hT _ tw_75) (fun _ h9 => h9) rfl dX3_told_49 ?_
      refine va_get (D := D) (cl := vwCl) (ci := 2) (v := .ref (ad 6)) (C := RX2) (T := TX2) (N := 4) (pc := 52) hx hb hT inT2 hown hK.1 hP 1 rfl rfl 0 (by decide) (hT _ tw_22) (fun _ h9 => h9) rfl dX3_told_52 ?_
      refine lv_iload_n (pc := 55) hx hb dX3_told_55 rfl (lv_at hl 1 rfl) ?_
      refine z_iald (pc := 56) hx hb hK hP 6 (z.toNat) (f := st) rfl (by omega) (by omega) (by omega) dX3_told_56 ?_
      have r_3 := hst (z.toNat)
      exact rd_iret hx hb hrt hlk dX3_told_57 (by unfold toldZ; repeat (first | rw [if_pos (by omega)] | rw [if_neg (by omega)]))
    · refine z_tabIn (tgt := 58) (pc := 16) hx hb (1) dX3_told_16 q_2 (by decide) (by decide) (by decide) rfl (by decide) ?_
      refine lv_aload_n (pc := 58) hx hb dX3_told_58 rfl (lv_at hl 0 rfl) ?_
      refine va_get (D := D) (cl := vwCl) (ci := 3) (v := .ref (ad 1)) (C := RX3) (T := TX3) (N := 7) (pc := 59) hx hb hT inT3 hown hK.1 hP 0 rfl rfl 0 (by decide) (hT _ tw_75) (fun _ h9 => h9) rfl dX3_told_59 ?_
      refine va_get (D := D) (cl := vwCl) (ci := 2) (v := .ref (ad 7)) (C := RX2) (T := TX2) (N := 4) (pc := 62) hx hb hT inT2 hown hK.1 hP 1 rfl rfl 1 (by decide) (hT _ tw_24) (fun _ h9 => h9) rfl dX3_told_62 ?_
      refine lv_iload_n (pc := 65) hx hb dX3_told_65 rfl (lv_at hl 1 rfl) ?_
      refine z_iald (pc := 66) hx hb hK hP 7 (z.toNat) (f := hr) rfl (by omega) (by omega) (by omega) dX3_told_66 ?_
      have r_4 := hhr (z.toNat)
      exact rd_iret hx hb hrt hlk dX3_told_67 (by unfold toldZ; repeat (first | rw [if_pos (by omega)] | rw [if_neg (by omega)]))
    · refine z_tabIn (tgt := 68) (pc := 16) hx hb (2) dX3_told_16 q_2 (by decide) (by decide) (by decide) rfl (by decide) ?_
      refine lv_aload_n (pc := 68) hx hb dX3_told_68 rfl (lv_at hl 0 rfl) ?_
      refine va_get (D := D) (cl := vwCl) (ci := 3) (v := .ref (ad 1)) (C := RX3) (T := TX3) (N := 7) (pc := 69) hx hb hT inT3 hown hK.1 hP 0 rfl rfl 0 (by decide) (hT _ tw_75) (fun _ h9 => h9) rfl dX3_told_69 ?_
      refine va_get (D := D) (cl := vwCl) (ci := 2) (v := .ref (ad 8)) (C := RX2) (T := TX2) (N := 4) (pc := 72) hx hb hT inT2 hown hK.1 hP 1 rfl rfl 2 (by decide) (hT _ tw_26) (fun _ h9 => h9) rfl dX3_told_72 ?_
      refine lv_iload_n (pc := 75) hx hb dX3_told_75 rfl (lv_at hl 1 rfl) ?_
      refine z_iald (pc := 76) hx hb hK hP 8 (z.toNat) (f := ca) rfl (by omega) (by omega) (by omega) dX3_told_76 ?_
      have r_5 := hca (z.toNat)
      exact rd_iret hx hb hrt hlk dX3_told_77 (by unfold toldZ; repeat (first | rw [if_pos (by omega)] | rw [if_neg (by omega)]))
    · refine z_tabIn (tgt := 78) (pc := 16) hx hb (3) dX3_told_16 q_2 (by decide) (by decide) (by decide) rfl (by decide) ?_
      refine lv_aload_n (pc := 78) hx hb dX3_told_78 rfl (lv_at hl 0 rfl) ?_
      refine lv_iload_n (pc := 79) hx hb dX3_told_79 rfl (lv_at hl 1 rfl) ?_
      refine rd_V (pc := 80) hx hb hml hown hT hK (c_X3_useHour D cI cJ l ad n st hr ca pcs fr lv k ts th sp hv pr hc hU hsp (z) (z.toNat) (by omega) (by omega)) ca_X3_useHour tw_132 hP 0 3 rfl rfl rfl ⟨Nat.le_of_ble_eq_true rfl, Nat.le_of_ble_eq_true rfl⟩ rfl hl.1 (As := [.int (zi (z))]) (rest := []) rfl (Nat.le_of_ble_eq_true rfl) ⟨Nat.le_of_ble_eq_true rfl, Nat.le_of_ble_eq_true rfl⟩ dX3_told_80 ?_
      exact rd_iret hx hb hrt hlk dX3_told_83 (by unfold toldZ; repeat (first | rw [if_pos (by omega)] | rw [if_neg (by omega)]))
  · refine z_sipush (pc := 11) hx hb dX3_told_11 (by decide) ?_
    exact rd_iret hx hb hrt hlk dX3_told_14 (by unfold toldZ; repeat (first | rw [if_pos (by omega)] | rw [if_neg (by omega)]))

set_option maxHeartbeats 4000000 in
set_option maxRecDepth 100000 in
theorem c_X3_count (D : va_G) (cI cJ : ClassId) (l : Launch) (ad : Nat → Nat) (n : Int) (st hr ca : Nat → Int) (pcs : Int) (fr lv : Nat → Int) (k : Int) (ts th sp hv : Nat → Int) (pr hc : Int) (hU : VU n st hr ca) (hsp : ∀ j : Nat, j < 4 → 1 ≤ sp j ∧ sp j ≤ 1000) (S : Int) (r_S : -2147483648 ≤ S ∧ S ≤ 2147483647) (w : Int) (r_w : -2147483648 ≤ w ∧ w ≤ 2147483647) : RD D cI cJ l yX3_count cX3_count 5 (some .int) 2 44 [.ref (ad 0), .int (zi (S)), .int (zi (w))] (wX ad cI cJ n st hr ca pcs fr lv k ts th sp hv pr hc) (.int (zi (countZ n st hr ca sp S w))) := by
  refine RD.of (by decide) (Nat.le_of_ble_eq_true rfl) ?_
  intro p e s m args below meth c hx hb hrt hml hown hT hlk hK hP ls hl
  replace hl : lv_has ls 5 [(0, .ref (ad 0)), (1, .int (zi (S))), (2, .int (zi (w)))] := hl
  obtain ⟨hn, hst, hhr, hh1, hca⟩ := id hU
  have loop : ∀ u : Nat, u ≤ n.toNat → ∀ (z1 z2 : Int), (z1 = cCt st hr ca sp S w u) → (z2 = (u : Int)) → ((0 ≤ S ∧ S ≤ 15) ∧ (0 ≤ w ∧ w ≤ 7)) → ∀ ls : Array Slot, lv_has ls 5 [(0, .ref (ad 0)), (1, .int (zi (S))), (2, .int (zi (w))), (3, .int (zi (z1))), (4, .int (zi (z2)))] → W p l e (RM 2 44) s m args below meth c s.heap [] 0 0 (MQ below (QR (.int (zi (countZ n st hr ca sp S w))) s.heap) args s 0 0 (fun _ => False)) (F0 m 26 ls []) := by
    refine lp_up (fun u => ∀ (z1 z2 : Int), (z1 = cCt st hr ca sp S w u) → (z2 = (u : Int)) → ((0 ≤ S ∧ S ≤ 15) ∧ (0 ≤ w ∧ w ≤ 7)) → ∀ ls : Array Slot, lv_has ls 5 [(0, .ref (ad 0)), (1, .int (zi (S))), (2, .int (zi (w))), (3, .int (zi (z1))), (4, .int (zi (z2)))] → W p l e (RM 2 44) s m args below meth c s.heap [] 0 0 (MQ below (QR (.int (zi (countZ n st hr ca sp S w))) s.heap) args s 0 0 (fun _ => False)) (F0 m 26 ls [])) (n.toNat) ?_ ?_
    · intro z1 z2 e1 e2 e3 ls hl
      refine lv_iload (pc := 26) hx hb dX3_count_26 (lv_at hl 4 rfl) ?_
      refine lv_aload_n (pc := 28) hx hb dX3_count_28 rfl (lv_at hl 0 rfl) ?_
      refine va_get (D := D) (cl := vwCl) (ci := 3) (v := .ref (ad 1)) (C := RX3) (T := TX3) (N := 7) (pc := 29) hx hb hT inT3 hown hK.1 hP 0 rfl rfl 0 (by decide) (hT _ tw_75) (fun _ h9 => h9) rfl dX3_count_29 ?_
      refine va_get (D := D) (cl := vwCl) (ci := 2) (v := .int (zi (n))) (C := RX2) (T := TX2) (N := 4) (pc := 32) hx hb hT inT2 hown hK.1 hP 1 rfl rfl 3 (by decide) (hT _ tw_28) (fun _ h9 => h9) rfl dX3_count_32 ?_
      refine z_icmp_ge (tgt := 67) (pc := 35) hx hb dX3_count_35 (by decide) (by omega) (by omega) (fun c_1 => ?_) (fun c_1 => absurd c_1 (by omega))
      refine lv_iload_n (pc := 67) hx hb dX3_count_67 rfl (lv_at hl 3 rfl) ?_
      exact rd_iret hx hb hrt hlk dX3_count_68 (by rw [countZ, if_pos e3, e1])
    · intro u hu ih z1 z2 e1 e2 e3 ls hl
      refine lv_iload (pc := 26) hx hb dX3_count_26 (lv_at hl 4 rfl) ?_
      refine lv_aload_n (pc := 28) hx hb dX3_count_28 rfl (lv_at hl 0 rfl) ?_
      refine va_get (D := D) (cl := vwCl) (ci := 3) (v := .ref (ad 1)) (C := RX3) (T := TX3) (N := 7) (pc := 29) hx hb hT inT3 hown hK.1 hP 0 rfl rfl 0 (by decide) (hT _ tw_75) (fun _ h9 => h9) rfl dX3_count_29 ?_
      refine va_get (D := D) (cl := vwCl) (ci := 2) (v := .int (zi (n))) (C := RX2) (T := TX2) (N := 4) (pc := 32) hx hb hT inT2 hown hK.1 hP 1 rfl rfl 3 (by decide) (hT _ tw_28) (fun _ h9 => h9) rfl dX3_count_32 ?_
      refine z_icmp_ge (tgt := 67) (pc := 35) hx hb dX3_count_35 (by decide) (by omega) (by omega) (fun c_2 => absurd c_2 (by omega)) (fun c_2 => ?_)
      refine lv_aload_n (pc := 38) hx hb dX3_count_38 rfl (lv_at hl 0 rfl) ?_
      refine va_get (D := D) (cl := vwCl) (ci := 3) (v := .ref (ad 1)) (C := RX3) (T := TX3) (N := 7) (pc := 39) hx hb hT inT3 hown hK.1 hP 0 rfl rfl 0 (by decide) (hT _ tw_75) (fun _ h9 => h9) rfl dX3_count_39 ?_
      refine lv_iload (pc := 42) hx hb dX3_count_42 (lv_at hl 4 rfl) ?_
      refine lv_iload_n (pc := 44) hx hb dX3_count_44 rfl (lv_at hl 1 rfl) ?_
      refine rd_V (pc := 45) hx hb hml hown hT hK (c_X2_isIn D cI cJ l ad n st hr ca pcs fr lv k ts th sp hv pr hc hU (z2) u (by omega) (by omega) (S) (by omega)) ca_X2_isIn tw_143 hP 1 2 rfl rfl rfl ⟨Nat.le_of_ble_eq_true rfl, Nat.le_of_ble_eq_true rfl⟩ rfl hl.1 (As := [.int (zi (z2)), .int (zi (S))]) (rest := []) rfl (Nat.le_of_ble_eq_true rfl) ⟨Nat.le_of_ble_eq_true rfl, Nat.le_of_ble_eq_true rfl⟩ dX3_count_45 ?_
      refine z_ifB_eq (tgt := 61) (pc := 48) hx hb dX3_count_48 (by decide) (fun c_3 => ?_) (fun c_3 => ?_)
      · refine lv_iinc (v := zi (z2 + 1)) (lv' := [(4, .int (zi ((z2 + 1)))), (0, .ref (ad 0)), (1, .int (zi (S))), (2, .int (zi (w))), (3, .int (zi (z1)))]) (pc := 61) hx hb dX3_count_61 hl (k := 4) rfl (zi_add _ _) (by decide) rfl (fun ls hl => ?_)
        refine lv_goto (tgt := 26) (pc := 64) hx hb dX3_count_64 (by decide) ?_
        exact ih  _ _ (by simp only [cCt]; rw [e1, if_neg (by assumption)]; omega) (by rw [e2]; rfl) (e3) ls (lv_sub hl [1, 2, 3, 4, 0] rfl)
      · refine lv_iload_n (pc := 51) hx hb dX3_count_51 rfl (lv_at hl 3 rfl) ?_
        refine lv_aload_n (pc := 52) hx hb dX3_count_52 rfl (lv_at hl 0 rfl) ?_
        refine lv_iload (pc := 53) hx hb dX3_count_53 (lv_at hl 4 rfl) ?_
        refine lv_iload_n (pc := 55) hx hb dX3_count_55 rfl (lv_at hl 2 rfl) ?_
        refine rd_V (pc := 56) hx hb hml hown hT hK (c_X3_shareInCount D cI cJ l ad n st hr ca pcs fr lv k ts th sp hv pr hc hU hsp (z2) (u) (by omega) (by omega) (w) (by omega)) ca_X3_shareInCount tw_147 hP 0 3 rfl rfl rfl ⟨Nat.le_of_ble_eq_true rfl, Nat.le_of_ble_eq_true rfl⟩ rfl hl.1 (As := [.int (zi (z2)), .int (zi (w))]) (rest := [.int (zi (z1))]) rfl (Nat.le_of_ble_eq_true rfl) ⟨Nat.le_of_ble_eq_true rfl, Nat.le_of_ble_eq_true rfl⟩ dX3_count_56 ?_
        refine z_iadd (pc := 59) hx hb dX3_count_59 ?_
        refine lv_istore_n (lv' := [(3, .int (zi ((z1 + (shareZ st hr ca sp (w) (u)))))), (0, .ref (ad 0)), (1, .int (zi (S))), (2, .int (zi (w))), (4, .int (zi (z2)))]) (pc := 60) hx hb dX3_count_60 rfl hl (by decide) rfl (fun ls hl => ?_)
        refine lv_iinc (v := zi (z2 + 1)) (lv' := [(4, .int (zi ((z2 + 1)))), (3, .int (zi ((z1 + (shareZ st hr ca sp (w) (u)))))), (0, .ref (ad 0)), (1, .int (zi (S))), (2, .int (zi (w)))]) (pc := 61) hx hb dX3_count_61 hl (k := 4) rfl (zi_add _ _) (by decide) rfl (fun ls hl => ?_)
        refine lv_goto (tgt := 26) (pc := 64) hx hb dX3_count_64 (by decide) ?_
        exact ih  _ _ (by simp only [cCt]; rw [e1, if_pos (by assumption)]) (by rw [e2]; rfl) (e3) ls (lv_sub hl [2, 3, 4, 1, 0] rfl)
  refine lv_iload_n (pc := 0) hx hb dX3_count_0 rfl (lv_at hl 1 rfl) ?_
  refine rd_S (pc := 1) hx hb hml hown hT hK (c_X3_isSet D cI cJ l (S) (by omega)) ca_X3_isSet tw_140 va_Pnil ⟨Nat.le_of_ble_eq_true rfl, Nat.le_of_ble_eq_true rfl⟩ rfl hl.1 (As := [.int (zi (S))]) (rest := []) rfl (Nat.le_of_ble_eq_true rfl) ⟨Nat.le_of_ble_eq_true rfl, Nat.le_of_ble_eq_true rfl⟩ dX3_count_1 ?_
  refine z_ifB_eq (tgt := 17) (pc := 4) hx hb dX3_count_4 (by decide) (fun c_4 => ?_) (fun c_4 => ?_)
  · refine z_sipush (pc := 17) hx hb dX3_count_17 (by decide) ?_
    exact rd_iret hx hb hrt hlk dX3_count_20 (by rw [countZ, if_neg (by omega)])
  · refine lv_iload_n (pc := 7) hx hb dX3_count_7 rfl (lv_at hl 2 rfl) ?_
    refine z_iconst (pc := 8) hx hb dX3_count_8 ?_
    refine z_bipush (pc := 9) hx hb dX3_count_9 (by decide) ?_
    refine rd_S (pc := 11) hx hb hml hown hT hK (c_X3_isWithin D cI cJ l (w) (by omega) (0) (by omega) (7) (by omega)) ca_X3_isWithin tw_107 va_Pnil ⟨Nat.le_of_ble_eq_true rfl, Nat.le_of_ble_eq_true rfl⟩ rfl hl.1 (As := [.int (zi (w)), .int (zi (0)), .int (zi (7))]) (rest := []) rfl (Nat.le_of_ble_eq_true rfl) ⟨Nat.le_of_ble_eq_true rfl, Nat.le_of_ble_eq_true rfl⟩ dX3_count_11 ?_
    refine z_ifB_ne (tgt := 21) (pc := 14) hx hb dX3_count_14 (by decide) (fun c_5 => ?_) (fun c_5 => ?_)
    · refine z_iconst (pc := 21) hx hb dX3_count_21 ?_
      refine lv_istore_n (lv' := [(3, .int (zi (0))), (0, .ref (ad 0)), (1, .int (zi (S))), (2, .int (zi (w)))]) (pc := 22) hx hb dX3_count_22 rfl hl (by decide) rfl (fun ls hl => ?_)
      refine z_iconst (pc := 23) hx hb dX3_count_23 ?_
      refine lv_istore (lv' := [(4, .int (zi (0))), (3, .int (zi (0))), (0, .ref (ad 0)), (1, .int (zi (S))), (2, .int (zi (w)))]) (pc := 24) hx hb dX3_count_24 hl (by decide) rfl (fun ls hl => ?_)
      exact loop 0 (by omega) _ _ (by rfl) (by rfl) (by omega) ls (lv_sub hl [2, 3, 4, 1, 0] rfl)
    · refine z_sipush (pc := 17) hx hb dX3_count_17 (by decide) ?_
      exact rd_iret hx hb hrt hlk dX3_count_20 (by rw [countZ, if_neg (by omega)])

set_option maxHeartbeats 4000000 in
set_option maxRecDepth 100000 in
theorem c_X3_risk (D : va_G) (cI cJ : ClassId) (l : Launch) (ad : Nat → Nat) (n : Int) (st hr ca : Nat → Int) (pcs : Int) (fr lv : Nat → Int) (k : Int) (ts th sp hv : Nat → Int) (pr hc : Int) (hU : VU n st hr ca) (S : Int) (r_S : -2147483648 ≤ S ∧ S ≤ 2147483647) (t : Int) (r_t : -2147483648 ≤ t ∧ t ≤ 2147483647) : RD D cI cJ l yX3_risk cX3_risk 3 (some .int) 2 46 [.ref (ad 0), .int (zi (S)), .int (zi (t))] (wX ad cI cJ n st hr ca pcs fr lv k ts th sp hv pr hc) (.int (zi (riskZ n st hr S t))) := by
  refine RD.of (by decide) (Nat.le_of_ble_eq_true rfl) ?_
  intro p e s m args below meth c hx hb hrt hml hown hT hlk hK hP ls hl
  replace hl : lv_has ls 3 [(0, .ref (ad 0)), (1, .int (zi (S))), (2, .int (zi (t)))] := hl
  obtain ⟨hn, hst, hhr, hh1, hca⟩ := id hU
  refine lv_iload_n (pc := 0) hx hb dX3_risk_0 rfl (lv_at hl 1 rfl) ?_
  refine rd_S (pc := 1) hx hb hml hown hT hK (c_X3_isSet D cI cJ l (S) (by omega)) ca_X3_isSet tw_140 va_Pnil ⟨Nat.le_of_ble_eq_true rfl, Nat.le_of_ble_eq_true rfl⟩ rfl hl.1 (As := [.int (zi (S))]) (rest := []) rfl (Nat.le_of_ble_eq_true rfl) ⟨Nat.le_of_ble_eq_true rfl, Nat.le_of_ble_eq_true rfl⟩ dX3_risk_1 ?_
  refine z_ifB_eq (tgt := 18) (pc := 4) hx hb dX3_risk_4 (by decide) (fun c_1 => ?_) (fun c_1 => ?_)
  · refine z_sipush (pc := 18) hx hb dX3_risk_18 (by decide) ?_
    exact rd_iret hx hb hrt hlk dX3_risk_21 (by rw [riskZ, if_neg (by omega)])
  · refine lv_iload_n (pc := 7) hx hb dX3_risk_7 rfl (lv_at hl 2 rfl) ?_
    refine z_iconst (pc := 8) hx hb dX3_risk_8 ?_
    refine z_sipush (pc := 9) hx hb dX3_risk_9 (by decide) ?_
    refine rd_S (pc := 12) hx hb hml hown hT hK (c_X3_isWithin D cI cJ l (t) (by omega) (0) (by omega) (500) (by omega)) ca_X3_isWithin tw_107 va_Pnil ⟨Nat.le_of_ble_eq_true rfl, Nat.le_of_ble_eq_true rfl⟩ rfl hl.1 (As := [.int (zi (t)), .int (zi (0)), .int (zi (500))]) (rest := []) rfl (Nat.le_of_ble_eq_true rfl) ⟨Nat.le_of_ble_eq_true rfl, Nat.le_of_ble_eq_true rfl⟩ dX3_risk_12 ?_
    refine z_ifB_ne (tgt := 22) (pc := 15) hx hb dX3_risk_15 (by decide) (fun c_2 => ?_) (fun c_2 => ?_)
    · refine lv_aload_n (pc := 22) hx hb dX3_risk_22 rfl (lv_at hl 0 rfl) ?_
      refine va_get (D := D) (cl := vwCl) (ci := 3) (v := .ref (ad 1)) (C := RX3) (T := TX3) (N := 7) (pc := 23) hx hb hT inT3 hown hK.1 hP 0 rfl rfl 0 (by decide) (hT _ tw_75) (fun _ h9 => h9) rfl dX3_risk_23 ?_
      refine lv_iload_n (pc := 26) hx hb dX3_risk_26 rfl (lv_at hl 1 rfl) ?_
      refine lv_iload_n (pc := 27) hx hb dX3_risk_27 rfl (lv_at hl 2 rfl) ?_
      refine rd_V (pc := 28) hx hb hml hown hT hK (c_X2_atRisk D cI cJ l ad n st hr ca pcs fr lv k ts th sp hv pr hc hU (S) (by omega) (t) (by omega)) ca_X2_atRisk tw_155 hP 1 2 rfl rfl rfl ⟨Nat.le_of_ble_eq_true rfl, Nat.le_of_ble_eq_true rfl⟩ rfl hl.1 (As := [.int (zi (S)), .int (zi (t))]) (rest := []) rfl (Nat.le_of_ble_eq_true rfl) ⟨Nat.le_of_ble_eq_true rfl, Nat.le_of_ble_eq_true rfl⟩ dX3_risk_28 ?_
      exact rd_iret hx hb hrt hlk dX3_risk_31 (by rw [riskZ, if_pos (by omega)])
    · refine z_sipush (pc := 18) hx hb dX3_risk_18 (by decide) ?_
      exact rd_iret hx hb hrt hlk dX3_risk_21 (by rw [riskZ, if_neg (by omega)])
