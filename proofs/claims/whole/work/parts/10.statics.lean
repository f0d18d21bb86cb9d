set_option maxHeartbeats 4000000 in
set_option maxRecDepth 100000 in
theorem c_X3_isWithin (D : va_G) (cI cJ : ClassId) (l : Launch)  (v : Int) (r_v : -2147483648 ≤ v ∧ v ≤ 2147483647) (a : Int) (r_a : -2147483648 ≤ a ∧ a ≤ 2147483647) (b : Int) (r_b : -2147483648 ≤ b ∧ b ≤ 2147483647) : RD D cI cJ l yX3_isWithin cX3_isWithin 3 (some .boolean) 0 0 [.int (zi (v)), .int (zi (a)), .int (zi (b))] [] (.int (bI (a ≤ v ∧ v ≤ b))) := by
  refine RD.of (by decide) (Nat.le_of_ble_eq_true rfl) ?_
  intro p e s m args below meth c hx hb hrt hml hown hT hlk hK hP ls hl
  replace hl : lv_has ls 3 [(0, .int (zi (v))), (1, .int (zi (a))), (2, .int (zi (b)))] := hl
  refine lv_iload_n (pc := 0) hx hb dX3_isWithin_0 rfl (lv_at hl 1 rfl) ?_
  refine lv_iload_n (pc := 1) hx hb dX3_isWithin_1 rfl (lv_at hl 0 rfl) ?_
  refine z_icmp_gt (tgt := 14) (pc := 2) hx hb dX3_isWithin_2 (by decide) (by omega) (by omega) (fun c_1 => ?_) (fun c_1 => ?_)
  · refine z_iconst (pc := 14) hx hb dX3_isWithin_14 ?_
    exact rd_zret hx hb hrt hlk dX3_isWithin_15 (bI0 (by omega))
  · refine lv_iload_n (pc := 5) hx hb dX3_isWithin_5 rfl (lv_at hl 0 rfl) ?_
    refine lv_iload_n (pc := 6) hx hb dX3_isWithin_6 rfl (lv_at hl 2 rfl) ?_
    refine z_icmp_gt (tgt := 14) (pc := 7) hx hb dX3_isWithin_7 (by decide) (by omega) (by omega) (fun c_2 => ?_) (fun c_2 => ?_)
    · refine z_iconst (pc := 14) hx hb dX3_isWithin_14 ?_
      exact rd_zret hx hb hrt hlk dX3_isWithin_15 (bI0 (by omega))
    · refine z_iconst (pc := 10) hx hb dX3_isWithin_10 ?_
      refine lv_goto (tgt := 15) (pc := 11) hx hb dX3_isWithin_11 (by decide) ?_
      exact rd_zret hx hb hrt hlk dX3_isWithin_15 (bI1 (by omega))

set_option maxHeartbeats 4000000 in
set_option maxRecDepth 100000 in
theorem c_X3_isStress (D : va_G) (cI cJ : ClassId) (l : Launch)  (v : Int) (r_v : -2147483648 ≤ v ∧ v ≤ 2147483647) : RD D cI cJ l yX3_isStress cX3_isStress 1 (some .boolean) 1 22 [.int (zi (v))] [] (.int (bI (0 ≤ v ∧ v ≤ 3))) := by
  refine RD.of (by decide) (Nat.le_of_ble_eq_true rfl) ?_
  intro p e s m args below meth c hx hb hrt hml hown hT hlk hK hP ls hl
  replace hl : lv_has ls 1 [(0, .int (zi (v)))] := hl
  refine lv_iload_n (pc := 0) hx hb dX3_isStress_0 rfl (lv_at hl 0 rfl) ?_
  refine z_iconst (pc := 1) hx hb dX3_isStress_1 ?_
  refine z_iconst (pc := 2) hx hb dX3_isStress_2 ?_
  refine rd_S (pc := 3) hx hb hml hown hT hK (c_X3_isWithin D cI cJ l (v) (by omega) (0) (by omega) (3) (by omega)) ca_X3_isWithin tw_107 va_Pnil ⟨Nat.le_of_ble_eq_true rfl, Nat.le_of_ble_eq_true rfl⟩ rfl hl.1 (As := [.int (zi (v)), .int (zi (0)), .int (zi (3))]) (rest := []) rfl (Nat.le_of_ble_eq_true rfl) ⟨Nat.le_of_ble_eq_true rfl, Nat.le_of_ble_eq_true rfl⟩ dX3_isStress_3 ?_
  exact rd_zret hx hb hrt hlk dX3_isStress_6 (bI_c (by omega))

set_option maxHeartbeats 4000000 in
set_option maxRecDepth 100000 in
theorem c_X3_isUnit (D : va_G) (cI cJ : ClassId) (l : Launch)  (a : Int) (r_a : -2147483648 ≤ a ∧ a ≤ 2147483647) (b : Int) (r_b : -2147483648 ≤ b ∧ b ≤ 2147483647) (d : Int) (r_d : -2147483648 ≤ d ∧ d ≤ 2147483647) : RD D cI cJ l yX3_isUnit cX3_isUnit 3 (some .boolean) 2 42 [.int (zi (a)), .int (zi (b)), .int (zi (d))] [] (.int (bI ((0 ≤ a ∧ a ≤ 3) ∧ (1 ≤ b ∧ b ≤ 500) ∧ (-1 ≤ d ∧ d ≤ 2)))) := by
  refine RD.of (by decide) (Nat.le_of_ble_eq_true rfl) ?_
  intro p e s m args below meth c hx hb hrt hml hown hT hlk hK hP ls hl
  replace hl : lv_has ls 3 [(0, .int (zi (a))), (1, .int (zi (b))), (2, .int (zi (d)))] := hl
  refine lv_iload_n (pc := 0) hx hb dX3_isUnit_0 rfl (lv_at hl 0 rfl) ?_
  refine rd_S (pc := 1) hx hb hml hown hT hK (c_X3_isStress D cI cJ l (a) (by omega)) ca_X3_isStress tw_104 va_Pnil ⟨Nat.le_of_ble_eq_true rfl, Nat.le_of_ble_eq_true rfl⟩ rfl hl.1 (As := [.int (zi (a))]) (rest := []) rfl (Nat.le_of_ble_eq_true rfl) ⟨Nat.le_of_ble_eq_true rfl, Nat.le_of_ble_eq_true rfl⟩ dX3_isUnit_1 ?_
  refine z_ifB_eq (tgt := 31) (pc := 4) hx hb dX3_isUnit_4 (by decide) (fun c_1 => ?_) (fun c_1 => ?_)
  · refine z_iconst (pc := 31) hx hb dX3_isUnit_31 ?_
    exact rd_zret hx hb hrt hlk dX3_isUnit_32 (bI0 (by omega))
  · refine lv_iload_n (pc := 7) hx hb dX3_isUnit_7 rfl (lv_at hl 1 rfl) ?_
    refine z_iconst (pc := 8) hx hb dX3_isUnit_8 ?_
    refine z_sipush (pc := 9) hx hb dX3_isUnit_9 (by decide) ?_
    refine rd_S (pc := 12) hx hb hml hown hT hK (c_X3_isWithin D cI cJ l (b) (by omega) (1) (by omega) (500) (by omega)) ca_X3_isWithin tw_107 va_Pnil ⟨Nat.le_of_ble_eq_true rfl, Nat.le_of_ble_eq_true rfl⟩ rfl hl.1 (As := [.int (zi (b)), .int (zi (1)), .int (zi (500))]) (rest := []) rfl (Nat.le_of_ble_eq_true rfl) ⟨Nat.le_of_ble_eq_true rfl, Nat.le_of_ble_eq_true rfl⟩ dX3_isUnit_12 ?_
    refine z_ifB_eq (tgt := 31) (pc := 15) hx hb dX3_isUnit_15 (by decide) (fun c_2 => ?_) (fun c_2 => ?_)
    · refine z_iconst (pc := 31) hx hb dX3_isUnit_31 ?_
      exact rd_zret hx hb hrt hlk dX3_isUnit_32 (bI0 (by omega))
    · refine lv_iload_n (pc := 18) hx hb dX3_isUnit_18 rfl (lv_at hl 2 rfl) ?_
      refine z_iconst (pc := 19) hx hb dX3_isUnit_19 ?_
      refine z_iconst (pc := 20) hx hb dX3_isUnit_20 ?_
      refine rd_S (pc := 21) hx hb hml hown hT hK (c_X3_isWithin D cI cJ l (d) (by omega) (-1) (by omega) (2) (by omega)) ca_X3_isWithin tw_107 va_Pnil ⟨Nat.le_of_ble_eq_true rfl, Nat.le_of_ble_eq_true rfl⟩ rfl hl.1 (As := [.int (zi (d)), .int (zi (-1)), .int (zi (2))]) (rest := []) rfl (Nat.le_of_ble_eq_true rfl) ⟨Nat.le_of_ble_eq_true rfl, Nat.le_of_ble_eq_true rfl⟩ dX3_isUnit_21 ?_
      refine z_ifB_eq (tgt := 31) (pc := 24) hx hb dX3_isUnit_24 (by decide) (fun c_3 => ?_) (fun c_3 => ?_)
      · refine z_iconst (pc := 31) hx hb dX3_isUnit_31 ?_
        exact rd_zret hx hb hrt hlk dX3_isUnit_32 (bI0 (by omega))
      · refine z_iconst (pc := 27) hx hb dX3_isUnit_27 ?_
        refine lv_goto (tgt := 32) (pc := 28) hx hb dX3_isUnit_28 (by decide) ?_
        exact rd_zret hx hb hrt hlk dX3_isUnit_32 (bI1 (by omega))

set_option maxHeartbeats 4000000 in
set_option maxRecDepth 100000 in
theorem c_X3_isSet (D : va_G) (cI cJ : ClassId) (l : Launch)  (v : Int) (r_v : -2147483648 ≤ v ∧ v ≤ 2147483647) : RD D cI cJ l yX3_isSet cX3_isSet 1 (some .boolean) 1 22 [.int (zi (v))] [] (.int (bI (0 ≤ v ∧ v ≤ 15))) := by
  refine RD.of (by decide) (Nat.le_of_ble_eq_true rfl) ?_
  intro p e s m args below meth c hx hb hrt hml hown hT hlk hK hP ls hl
  replace hl : lv_has ls 1 [(0, .int (zi (v)))] := hl
  refine lv_iload_n (pc := 0) hx hb dX3_isSet_0 rfl (lv_at hl 0 rfl) ?_
  refine z_iconst (pc := 1) hx hb dX3_isSet_1 ?_
  refine z_bipush (pc := 2) hx hb dX3_isSet_2 (by decide) ?_
  refine rd_S (pc := 4) hx hb hml hown hT hK (c_X3_isWithin D cI cJ l (v) (by omega) (0) (by omega) (15) (by omega)) ca_X3_isWithin tw_107 va_Pnil ⟨Nat.le_of_ble_eq_true rfl, Nat.le_of_ble_eq_true rfl⟩ rfl hl.1 (As := [.int (zi (v)), .int (zi (0)), .int (zi (15))]) (rest := []) rfl (Nat.le_of_ble_eq_true rfl) ⟨Nat.le_of_ble_eq_true rfl, Nat.le_of_ble_eq_true rfl⟩ dX3_isSet_4 ?_
  exact rd_zret hx hb hrt hlk dX3_isSet_7 (bI_c (by omega))

set_option maxHeartbeats 4000000 in
set_option maxRecDepth 100000 in
theorem c_X3_isSetByCause (D : va_G) (cI cJ : ClassId) (l : Launch)  (v : Int) (r_v : -2147483648 ≤ v ∧ v ≤ 2147483647) (d : Int) (r_d : -2147483648 ≤ d ∧ d ≤ 2147483647) : RD D cI cJ l yX3_isSetByCause cX3_isSetByCause 2 (some .boolean) 2 42 [.int (zi (v)), .int (zi (d))] [] (.int (bI ((0 ≤ v ∧ v ≤ 15) ∧ (-1 ≤ d ∧ d ≤ 2)))) := by
  refine RD.of (by decide) (Nat.le_of_ble_eq_true rfl) ?_
  intro p e s m args below meth c hx hb hrt hml hown hT hlk hK hP ls hl
  replace hl : lv_has ls 2 [(0, .int (zi (v))), (1, .int (zi (d)))] := hl
  refine lv_iload_n (pc := 0) hx hb dX3_isSetByCause_0 rfl (lv_at hl 0 rfl) ?_
  refine rd_S (pc := 1) hx hb hml hown hT hK (c_X3_isSet D cI cJ l (v) (by omega)) ca_X3_isSet tw_140 va_Pnil ⟨Nat.le_of_ble_eq_true rfl, Nat.le_of_ble_eq_true rfl⟩ rfl hl.1 (As := [.int (zi (v))]) (rest := []) rfl (Nat.le_of_ble_eq_true rfl) ⟨Nat.le_of_ble_eq_true rfl, Nat.le_of_ble_eq_true rfl⟩ dX3_isSetByCause_1 ?_
  refine z_ifB_eq (tgt := 20) (pc := 4) hx hb dX3_isSetByCause_4 (by decide) (fun c_1 => ?_) (fun c_1 => ?_)
  · refine z_iconst (pc := 20) hx hb dX3_isSetByCause_20 ?_
    exact rd_zret hx hb hrt hlk dX3_isSetByCause_21 (bI0 (by omega))
  · refine lv_iload_n (pc := 7) hx hb dX3_isSetByCause_7 rfl (lv_at hl 1 rfl) ?_
    refine z_iconst (pc := 8) hx hb dX3_isSetByCause_8 ?_
    refine z_iconst (pc := 9) hx hb dX3_isSetByCause_9 ?_
    refine rd_S (pc := 10) hx hb hml hown hT hK (c_X3_isWithin D cI cJ l (d) (by omega) (-1) (by omega) (2) (by omega)) ca_X3_isWithin tw_107 va_Pnil ⟨Nat.le_of_ble_eq_true rfl, Nat.le_of_ble_eq_true rfl⟩ rfl hl.1 (As := [.int (zi (d)), .int (zi (-1)), .int (zi (2))]) (rest := []) rfl (Nat.le_of_ble_eq_true rfl) ⟨Nat.le_of_ble_eq_true rfl, Nat.le_of_ble_eq_true rfl⟩ dX3_isSetByCause_10 ?_
    refine z_ifB_eq (tgt := 20) (pc := 13) hx hb dX3_isSetByCause_13 (by decide) (fun c_2 => ?_) (fun c_2 => ?_)
    · refine z_iconst (pc := 20) hx hb dX3_isSetByCause_20 ?_
      exact rd_zret hx hb hrt hlk dX3_isSetByCause_21 (bI0 (by omega))
    · refine z_iconst (pc := 16) hx hb dX3_isSetByCause_16 ?_
      refine lv_goto (tgt := 21) (pc := 17) hx hb dX3_isSetByCause_17 (by decide) ?_
      exact rd_zret hx hb hrt hlk dX3_isSetByCause_21 (bI1 (by omega))

set_option maxHeartbeats 4000000 in
set_option maxRecDepth 100000 in
theorem c_X3_isLaw (D : va_G) (cI cJ : ClassId) (l : Launch)  (b : Int) (r_b : -2147483648 ≤ b ∧ b ≤ 2147483647) (s_ : Int) (r_s_ : -2147483648 ≤ s_ ∧ s_ ≤ 2147483647) : RD D cI cJ l yX3_isLaw cX3_isLaw 2 (some .boolean) 1 22 [.int (zi (b)), .int (zi (s_))] [] (.int (bI ((1 ≤ b ∧ b ≤ 100000) ∧ (1 ≤ s_ ∧ s_ ≤ 20)))) := by
  refine RD.of (by decide) (Nat.le_of_ble_eq_true rfl) ?_
  intro p e s m args below meth c hx hb hrt hml hown hT hlk hK hP ls hl
  replace hl : lv_has ls 2 [(0, .int (zi (b))), (1, .int (zi (s_)))] := hl
  refine lv_iload_n (pc := 0) hx hb dX3_isLaw_0 rfl (lv_at hl 0 rfl) ?_
  refine z_iconst (pc := 1) hx hb dX3_isLaw_1 ?_
  refine z_ldc (pc := 2) hx hb (100000) hown (hT _ tw_253) (by decide) dX3_isLaw_2 ?_
  refine rd_S (pc := 4) hx hb hml hown hT hK (c_X3_isWithin D cI cJ l (b) (by omega) (1) (by omega) (100000) (by omega)) ca_X3_isWithin tw_107 va_Pnil ⟨Nat.le_of_ble_eq_true rfl, Nat.le_of_ble_eq_true rfl⟩ rfl hl.1 (As := [.int (zi (b)), .int (zi (1)), .int (zi (100000))]) (rest := []) rfl (Nat.le_of_ble_eq_true rfl) ⟨Nat.le_of_ble_eq_true rfl, Nat.le_of_ble_eq_true rfl⟩ dX3_isLaw_4 ?_
  refine z_ifB_eq (tgt := 24) (pc := 7) hx hb dX3_isLaw_7 (by decide) (fun c_1 => ?_) (fun c_1 => ?_)
  · refine z_iconst (pc := 24) hx hb dX3_isLaw_24 ?_
    exact rd_zret hx hb hrt hlk dX3_isLaw_25 (bI0 (by omega))
  · refine lv_iload_n (pc := 10) hx hb dX3_isLaw_10 rfl (lv_at hl 1 rfl) ?_
    refine z_iconst (pc := 11) hx hb dX3_isLaw_11 ?_
    refine z_bipush (pc := 12) hx hb dX3_isLaw_12 (by decide) ?_
    refine rd_S (pc := 14) hx hb hml hown hT hK (c_X3_isWithin D cI cJ l (s_) (by omega) (1) (by omega) (20) (by omega)) ca_X3_isWithin tw_107 va_Pnil ⟨Nat.le_of_ble_eq_true rfl, Nat.le_of_ble_eq_true rfl⟩ rfl hl.1 (As := [.int (zi (s_)), .int (zi (1)), .int (zi (20))]) (rest := []) rfl (Nat.le_of_ble_eq_true rfl) ⟨Nat.le_of_ble_eq_true rfl, Nat.le_of_ble_eq_true rfl⟩ dX3_isLaw_14 ?_
    refine z_ifB_eq (tgt := 24) (pc := 17) hx hb dX3_isLaw_17 (by decide) (fun c_2 => ?_) (fun c_2 => ?_)
    · refine z_iconst (pc := 24) hx hb dX3_isLaw_24 ?_
      exact rd_zret hx hb hrt hlk dX3_isLaw_25 (bI0 (by omega))
    · refine z_iconst (pc := 20) hx hb dX3_isLaw_20 ?_
      refine lv_goto (tgt := 25) (pc := 21) hx hb dX3_isLaw_21 (by decide) ?_
      exact rd_zret hx hb hrt hlk dX3_isLaw_25 (bI1 (by omega))

set_option maxHeartbeats 4000000 in
set_option maxRecDepth 100000 in
theorem c_X3_cut (D : va_G) (cI cJ : ClassId) (l : Launch)  (a b : Int) (hq : 0 ≤ a ∧ a ≤ 2147483647 ∧ 0 < b ∧ b ≤ 2147483647) : RD D cI cJ l yX3_cut cX3_cut 2 (some .int) 0 0 [.int (zi (a)), .int (zi (b))] [] (.int (zi (a / b))) := by
  refine RD.of (by decide) (Nat.le_of_ble_eq_true rfl) ?_
  intro p e s m args below meth c hx hb hrt hml hown hT hlk hK hP ls hl
  replace hl : lv_has ls 2 [(0, .int (zi (a))), (1, .int (zi (b)))] := hl
  refine lv_iload_n (pc := 0) hx hb dX3_cut_0 rfl (lv_at hl 1 rfl) ?_
  refine z_if_le (tgt := 10) (pc := 1) hx hb dX3_cut_1 (by decide) (by omega) (fun c_1 => absurd c_1 (by omega)) (fun c_1 => ?_)
  refine lv_iload_n (pc := 4) hx hb dX3_cut_4 rfl (lv_at hl 0 rfl) ?_
  refine lv_iload_n (pc := 5) hx hb dX3_cut_5 rfl (lv_at hl 1 rfl) ?_
  refine z_idiv (pc := 6) hx hb (by omega) dX3_cut_6 ?_
  refine lv_goto (tgt := 11) (pc := 7) hx hb dX3_cut_7 (by decide) ?_
  exact rd_iret hx hb hrt hlk dX3_cut_11 (rfl)

set_option maxHeartbeats 4000000 in
set_option maxRecDepth 100000 in
theorem c_X3_roundedUp (D : va_G) (cI cJ : ClassId) (l : Launch)  (a b : Int) (hq : 0 ≤ a ∧ a + b ≤ 2147483647 ∧ 0 < b) : RD D cI cJ l yX3_roundedUp cX3_roundedUp 2 (some .int) 1 21 [.int (zi (a)), .int (zi (b))] [] (.int (zi ((a + b - 1) / b))) := by
  refine RD.of (by decide) (Nat.le_of_ble_eq_true rfl) ?_
  intro p e s m args below meth c hx hb hrt hml hown hT hlk hK hP ls hl
  replace hl : lv_has ls 2 [(0, .int (zi (a))), (1, .int (zi (b)))] := hl
  refine lv_iload_n (pc := 0) hx hb dX3_roundedUp_0 rfl (lv_at hl 0 rfl) ?_
  refine lv_iload_n (pc := 1) hx hb dX3_roundedUp_1 rfl (lv_at hl 1 rfl) ?_
  refine z_iadd (pc := 2) hx hb dX3_roundedUp_2 ?_
  refine z_iconst (pc := 3) hx hb dX3_roundedUp_3 ?_
  refine z_isub (pc := 4) hx hb dX3_roundedUp_4 ?_
  refine lv_iload_n (pc := 5) hx hb dX3_roundedUp_5 rfl (lv_at hl 1 rfl) ?_
  refine rd_S (pc := 6) hx hb hml hown hT hK (c_X3_cut D cI cJ l (((a + b) - 1)) (b) (by omega)) ca_X3_cut tw_257 va_Pnil ⟨Nat.le_of_ble_eq_true rfl, Nat.le_of_ble_eq_true rfl⟩ rfl hl.1 (As := [.int (zi (((a + b) - 1))), .int (zi (b))]) (rest := []) rfl (Nat.le_of_ble_eq_true rfl) ⟨Nat.le_of_ble_eq_true rfl, Nat.le_of_ble_eq_true rfl⟩ dX3_roundedUp_6 ?_
  exact rd_iret hx hb hrt hlk dX3_roundedUp_9 (rfl)

/-- what a LAW says of a STRESS -/
def saysZ (b s_ : Int) : Nat → Int
  | 0 => b
  | k + 1 => saysZ b s_ k * 10 / (10 + s_)
theorem saysZ_rng (b s_ : Int) (hb : 0 ≤ b) (hs : 1 ≤ s_) : ∀ k, 0 ≤ saysZ b s_ k ∧ saysZ b s_ k ≤ b
  | 0 => by simp only [saysZ]; omega
  | k + 1 => by
    have ih := saysZ_rng b s_ hb hs k
    simp only [saysZ]
    refine ⟨Int.ediv_nonneg (by omega) (by omega), ?_⟩
    have h1 : saysZ b s_ k * 10 / (10 + s_) ≤ saysZ b s_ k := Int.ediv_le_of_le_mul (by omega) (by
      have h2 : saysZ b s_ k * 10 ≤ saysZ b s_ k * (10 + s_) := Int.mul_le_mul_of_nonneg_left (by omega) ih.1
      exact h2)
    omega

set_option maxHeartbeats 4000000 in
set_option maxRecDepth 100000 in
theorem c_X3_lawAt (D : va_G) (cI cJ : ClassId) (l : Launch)  (b s_ z : Int) (K : Nat) (hz : z = (K : Int)) (hq : 0 ≤ b ∧ b ≤ 200000000 ∧ 1 ≤ s_ ∧ s_ ≤ 20 ∧ K ≤ 3) : RD D cI cJ l yX3_lawAt cX3_lawAt 5 (some .int) 1 21 [.int (zi (b)), .int (zi (s_)), .int (zi (z))] [] (.int (zi (saysZ b s_ K))) := by
  subst hz
  refine RD.of (by decide) (Nat.le_of_ble_eq_true rfl) ?_
  intro p e s m args below meth c hx hb hrt hml hown hT hlk hK hP ls hl
  replace hl : lv_has ls 5 [(0, .int (zi (b))), (1, .int (zi (s_))), (2, .int (zi ((K : Int))))] := hl
  have loop : ∀ u : Nat, u ≤ K → ∀ (z1 z2 : Int), (z1 = saysZ b s_ u) → (z2 = (u : Int)) → ∀ ls : Array Slot, lv_has ls 5 [(0, .int (zi (b))), (1, .int (zi (s_))), (2, .int (zi ((K : Int)))), (3, .int (zi (z1))), (4, .int (zi (z2)))] → W p l e (RM 1 21) s m args below meth c s.heap [] 0 0 (MQ below (QR (.int (zi (saysZ b s_ K))) s.heap) args s 0 0 (fun _ => False)) (F0 m 5 ls []) := by
    refine lp_up (fun u => ∀ (z1 z2 : Int), (z1 = saysZ b s_ u) → (z2 = (u : Int)) → ∀ ls : Array Slot, lv_has ls 5 [(0, .int (zi (b))), (1, .int (zi (s_))), (2, .int (zi ((K : Int)))), (3, .int (zi (z1))), (4, .int (zi (z2)))] → W p l e (RM 1 21) s m args below meth c s.heap [] 0 0 (MQ below (QR (.int (zi (saysZ b s_ K))) s.heap) args s 0 0 (fun _ => False)) (F0 m 5 ls [])) (K) ?_ ?_
    · intro z1 z2 e1 e2 ls hl
      have hr1 := saysZ_rng b s_ hq.1 hq.2.2.1 K
      refine lv_iload (pc := 5) hx hb dX3_lawAt_5 (lv_at hl 4 rfl) ?_
      refine lv_iload_n (pc := 7) hx hb dX3_lawAt_7 rfl (lv_at hl 2 rfl) ?_
      refine z_icmp_ge (tgt := 29) (pc := 8) hx hb dX3_lawAt_8 (by decide) (by omega) (by omega) (fun c_1 => ?_) (fun c_1 => absurd c_1 (by omega))
      refine lv_iload_n (pc := 29) hx hb dX3_lawAt_29 rfl (lv_at hl 3 rfl) ?_
      exact rd_iret hx hb hrt hlk dX3_lawAt_30 (by rw [e1])
    · intro u hu ih z1 z2 e1 e2 ls hl
      have hr1 := saysZ_rng b s_ hq.1 hq.2.2.1 u
      refine lv_iload (pc := 5) hx hb dX3_lawAt_5 (lv_at hl 4 rfl) ?_
      refine lv_iload_n (pc := 7) hx hb dX3_lawAt_7 rfl (lv_at hl 2 rfl) ?_
      refine z_icmp_ge (tgt := 29) (pc := 8) hx hb dX3_lawAt_8 (by decide) (by omega) (by omega) (fun c_2 => absurd c_2 (by omega)) (fun c_2 => ?_)
      refine lv_iload_n (pc := 11) hx hb dX3_lawAt_11 rfl (lv_at hl 3 rfl) ?_
      refine z_bipush (pc := 12) hx hb dX3_lawAt_12 (by decide) ?_
      refine z_imul (pc := 14) hx hb dX3_lawAt_14 ?_
      refine z_bipush (pc := 15) hx hb dX3_lawAt_15 (by decide) ?_
      refine lv_iload_n (pc := 17) hx hb dX3_lawAt_17 rfl (lv_at hl 1 rfl) ?_
      refine z_iadd (pc := 18) hx hb dX3_lawAt_18 ?_
      refine rd_S (pc := 19) hx hb hml hown hT hK (c_X3_cut D cI cJ l ((z1 * 10)) ((10 + s_)) (by omega)) ca_X3_cut tw_257 va_Pnil ⟨Nat.le_of_ble_eq_true rfl, Nat.le_of_ble_eq_true rfl⟩ rfl hl.1 (As := [.int (zi ((z1 * 10))), .int (zi ((10 + s_)))]) (rest := []) rfl (Nat.le_of_ble_eq_true rfl) ⟨Nat.le_of_ble_eq_true rfl, Nat.le_of_ble_eq_true rfl⟩ dX3_lawAt_19 ?_
      refine lv_istore_n (lv' := [(3, .int (zi (((z1 * 10) / (10 + s_))))), (0, .int (zi (b))), (1, .int (zi (s_))), (2, .int (zi ((K : Int)))), (4, .int (zi (z2)))]) (pc := 22) hx hb dX3_lawAt_22 rfl hl (by decide) rfl (fun ls hl => ?_)
      refine lv_iinc (v := zi (z2 + 1)) (lv' := [(4, .int (zi ((z2 + 1)))), (3, .int (zi (((z1 * 10) / (10 + s_))))), (0, .int (zi (b))), (1, .int (zi (s_))), (2, .int (zi ((K : Int))))]) (pc := 23) hx hb dX3_lawAt_23 hl (k := 4) rfl (zi_add _ _) (by decide) rfl (fun ls hl => ?_)
      refine lv_goto (tgt := 5) (pc := 26) hx hb dX3_lawAt_26 (by decide) ?_
      exact ih  _ _ (by rw [e1]; rfl) (by rw [e2]; rfl) ls (lv_sub hl [2, 3, 4, 1, 0] rfl)
  refine lv_iload_n (pc := 0) hx hb dX3_lawAt_0 rfl (lv_at hl 0 rfl) ?_
  refine lv_istore_n (lv' := [(3, .int (zi (b))), (0, .int (zi (b))), (1, .int (zi (s_))), (2, .int (zi ((K : Int))))]) (pc := 1) hx hb dX3_lawAt_1 rfl hl (by decide) rfl (fun ls hl => ?_)
  refine z_iconst (pc := 2) hx hb dX3_lawAt_2 ?_
  refine lv_istore (lv' := [(4, .int (zi (0))), (3, .int (zi (b))), (0, .int (zi (b))), (1, .int (zi (s_))), (2, .int (zi ((K : Int))))]) (pc := 3) hx hb dX3_lawAt_3 hl (by decide) rfl (fun ls hl => ?_)
  exact loop 0 (by omega) _ _ (by rfl) (by rfl) ls (lv_sub hl [2, 3, 4, 1, 0] rfl)

set_option maxHeartbeats 4000000 in
set_option maxRecDepth 100000 in
theorem c_X3_power (D : va_G) (cI cJ : ClassId) (l : Launch)  (b z : Int) (K : Nat) (hz : z = (K : Int)) (hq : 0 ≤ b ∧ b ≤ 10 ∧ K ≤ 12) : RD D cI cJ l yX3_power cX3_power 5 (some .long) 0 0 [.int (zi (b)), .int (zi (z))] [] (.long (zj (b ^ K))) := by
  subst hz
  refine RD.of (by decide) (Nat.le_of_ble_eq_true rfl) ?_
  intro p e s m args below meth c hx hb hrt hml hown hT hlk hK hP ls hl
  replace hl : lv_has ls 5 [(0, .int (zi (b))), (1, .int (zi ((K : Int))))] := hl
  have loop : ∀ u : Nat, u ≤ K → ∀ (z1 z2 : Int), (z1 = b ^ u) → (z2 = (u : Int)) → ∀ ls : Array Slot, lv_has ls 5 [(0, .int (zi (b))), (1, .int (zi ((K : Int)))), (2, .long (zj (z1))), (4, .int (zi (z2)))] → W p l e (RM 0 0) s m args below meth c s.heap [] 0 0 (MQ below (QR (.long (zj (b ^ K))) s.heap) args s 0 0 (fun _ => False)) (F0 m 5 ls []) := by
    refine lp_up (fun u => ∀ (z1 z2 : Int), (z1 = b ^ u) → (z2 = (u : Int)) → ∀ ls : Array Slot, lv_has ls 5 [(0, .int (zi (b))), (1, .int (zi ((K : Int)))), (2, .long (zj (z1))), (4, .int (zi (z2)))] → W p l e (RM 0 0) s m args below meth c s.heap [] 0 0 (MQ below (QR (.long (zj (b ^ K))) s.heap) args s 0 0 (fun _ => False)) (F0 m 5 ls [])) (K) ?_ ?_
    · intro z1 z2 e1 e2 ls hl
      refine lv_iload (pc := 5) hx hb dX3_power_5 (lv_at hl 3 rfl) ?_
      refine lv_iload_n (pc := 7) hx hb dX3_power_7 rfl (lv_at hl 1 rfl) ?_
      refine z_icmp_ge (tgt := 22) (pc := 8) hx hb dX3_power_8 (by decide) (by omega) (by omega) (fun c_1 => ?_) (fun c_1 => absurd c_1 (by omega))
      refine lv_lload_n (pc := 22) hx hb dX3_power_22 rfl (lv_at hl 2 rfl) ?_
      exact rd_lret hx hb hrt hlk dX3_power_23 (by rw [e1])
    · intro u hu ih z1 z2 e1 e2 ls hl
      refine lv_iload (pc := 5) hx hb dX3_power_5 (lv_at hl 3 rfl) ?_
      refine lv_iload_n (pc := 7) hx hb dX3_power_7 rfl (lv_at hl 1 rfl) ?_
      refine z_icmp_ge (tgt := 22) (pc := 8) hx hb dX3_power_8 (by decide) (by omega) (by omega) (fun c_2 => absurd c_2 (by omega)) (fun c_2 => ?_)
      refine lv_lload_n (pc := 11) hx hb dX3_power_11 rfl (lv_at hl 2 rfl) ?_
      refine lv_iload_n (pc := 12) hx hb dX3_power_12 rfl (lv_at hl 0 rfl) ?_
      refine z_i2l (pc := 13) hx hb (by omega) dX3_power_13 ?_
      refine z_lmul (pc := 14) hx hb dX3_power_14 ?_
      refine lv_lstore_n (lv' := [(2, .long (zj ((z1 * b)))), (0, .int (zi (b))), (1, .int (zi ((K : Int)))), (4, .int (zi (z2)))]) (pc := 15) hx hb dX3_power_15 rfl hl (by decide) rfl (fun ls hl => ?_)
      refine lv_iinc (v := zi (z2 + 1)) (lv' := [(4, .int (zi ((z2 + 1)))), (2, .long (zj ((z1 * b)))), (0, .int (zi (b))), (1, .int (zi ((K : Int))))]) (pc := 16) hx hb dX3_power_16 hl (k := 3) rfl (zi_add _ _) (by decide) rfl (fun ls hl => ?_)
      refine lv_goto (tgt := 5) (pc := 19) hx hb dX3_power_19 (by decide) ?_
      exact ih  _ _ (by rw [e1]; exact (Int.pow_succ b u).symm) (by rw [e2]; rfl) ls (lv_sub hl [2, 3, 1, 0] rfl)
  refine z_lconst1 (pc := 0) hx hb dX3_power_0 ?_
  refine lv_lstore_n (lv' := [(2, .long (zj (1))), (0, .int (zi (b))), (1, .int (zi ((K : Int))))]) (pc := 1) hx hb dX3_power_1 rfl hl (by decide) rfl (fun ls hl => ?_)
  refine z_iconst (pc := 2) hx hb dX3_power_2 ?_
  refine lv_istore (lv' := [(4, .int (zi (0))), (2, .long (zj (1))), (0, .int (zi (b))), (1, .int (zi ((K : Int))))]) (pc := 3) hx hb dX3_power_3 hl (by decide) rfl (fun ls hl => ?_)
  exact loop 0 (by omega) _ _ (by rw [Int.pow_zero]) (by rfl) ls (lv_sub hl [2, 3, 1, 0] rfl)

/-- in how many ways k of n -/
def waysZ (n : Int) : Nat → Int
  | 0 => 1
  | k + 1 => waysZ n k * (n - k) / (k + 1)
theorem waysZ_tab : ∀ n : Fin 13, ∀ k : Fin 14, 0 ≤ waysZ (n.val : Int) k.val ∧ waysZ (n.val : Int) k.val ≤ 924 := by decide +kernel
theorem waysZ_rng {n k : Nat} (hn : n ≤ 12) (hk : k ≤ 13) : 0 ≤ waysZ (n : Int) k ∧ waysZ (n : Int) k ≤ 924 := waysZ_tab ⟨n, by omega⟩ ⟨k, by omega⟩

set_option maxHeartbeats 4000000 in
set_option maxRecDepth 100000 in
theorem c_X3_ways (D : va_G) (cI cJ : ClassId) (l : Launch)  (y z : Int) (N K : Nat) (hy : y = (N : Int)) (hz : z = (K : Int)) (hq : N ≤ 12 ∧ K ≤ N) : RD D cI cJ l yX3_ways cX3_ways 5 (some .long) 0 0 [.int (zi (y)), .int (zi (z))] [] (.long (zj (waysZ N K))) := by
  subst hy
  subst hz
  refine RD.of (by decide) (Nat.le_of_ble_eq_true rfl) ?_
  intro p e s m args below meth c hx hb hrt hml hown hT hlk hK hP ls hl
  replace hl : lv_has ls 5 [(0, .int (zi ((N : Int)))), (1, .int (zi ((K : Int))))] := hl
  have loop : ∀ u : Nat, u ≤ K → ∀ (z1 z2 : Int), (z1 = waysZ N u) → (z2 = (u : Int)) → ∀ ls : Array Slot, lv_has ls 5 [(0, .int (zi ((N : Int)))), (1, .int (zi ((K : Int)))), (2, .long (zj (z1))), (4, .int (zi (z2)))] → W p l e (RM 0 0) s m args below meth c s.heap [] 0 0 (MQ below (QR (.long (zj (waysZ N K))) s.heap) args s 0 0 (fun _ => False)) (F0 m 5 ls []) := by
    refine lp_up (fun u => ∀ (z1 z2 : Int), (z1 = waysZ N u) → (z2 = (u : Int)) → ∀ ls : Array Slot, lv_has ls 5 [(0, .int (zi ((N : Int)))), (1, .int (zi ((K : Int)))), (2, .long (zj (z1))), (4, .int (zi (z2)))] → W p l e (RM 0 0) s m args below meth c s.heap [] 0 0 (MQ below (QR (.long (zj (waysZ N K))) s.heap) args s 0 0 (fun _ => False)) (F0 m 5 ls [])) (K) ?_ ?_
    · intro z1 z2 e1 e2 ls hl
      have hw := waysZ_rng (n := N) (k := K) (by omega) (by omega)
      refine lv_iload (pc := 5) hx hb dX3_ways_5 (lv_at hl 3 rfl) ?_
      refine lv_iload_n (pc := 7) hx hb dX3_ways_7 rfl (lv_at hl 1 rfl) ?_
      refine z_icmp_ge (tgt := 31) (pc := 8) hx hb dX3_ways_8 (by decide) (by omega) (by omega) (fun c_1 => ?_) (fun c_1 => absurd c_1 (by omega))
      refine lv_lload_n (pc := 31) hx hb dX3_ways_31 rfl (lv_at hl 2 rfl) ?_
      exact rd_lret hx hb hrt hlk dX3_ways_32 (by rw [e1])
    · intro u hu ih z1 z2 e1 e2 ls hl
      have hw := waysZ_rng (n := N) (k := u) (by omega) (by omega)
      rw [← e1] at hw
      refine lv_iload (pc := 5) hx hb dX3_ways_5 (lv_at hl 3 rfl) ?_
      refine lv_iload_n (pc := 7) hx hb dX3_ways_7 rfl (lv_at hl 1 rfl) ?_
      refine z_icmp_ge (tgt := 31) (pc := 8) hx hb dX3_ways_8 (by decide) (by omega) (by omega) (fun c_2 => absurd c_2 (by omega)) (fun c_2 => ?_)
      refine lv_lload_n (pc := 11) hx hb dX3_ways_11 rfl (lv_at hl 2 rfl) ?_
      refine lv_iload_n (pc := 12) hx hb dX3_ways_12 rfl (lv_at hl 0 rfl) ?_
      refine lv_iload (pc := 13) hx hb dX3_ways_13 (lv_at hl 3 rfl) ?_
      refine z_isub (pc := 15) hx hb dX3_ways_15 ?_
      refine z_i2l (pc := 16) hx hb (by omega) dX3_ways_16 ?_
      refine z_lmul (pc := 17) hx hb dX3_ways_17 ?_
      refine lv_iload (pc := 18) hx hb dX3_ways_18 (lv_at hl 3 rfl) ?_
      refine z_iconst (pc := 20) hx hb dX3_ways_20 ?_
      refine z_iadd (pc := 21) hx hb dX3_ways_21 ?_
      refine z_i2l (pc := 22) hx hb (by omega) dX3_ways_22 ?_
      refine z_ldiv (pc := 23) hx hb ⟨Int.mul_nonneg (by omega) (by omega), Int.le_trans (Int.mul_le_mul (show z1 ≤ 924 by omega) (show (N : Int) - z2 ≤ 12 by omega) (by omega) (by omega)) (by omega), by omega, by omega⟩ dX3_ways_23 ?_
      refine lv_lstore_n (lv' := [(2, .long (zj (((z1 * ((N : Int) - z2)) / (z2 + 1))))), (0, .int (zi ((N : Int)))), (1, .int (zi ((K : Int)))), (4, .int (zi (z2)))]) (pc := 24) hx hb dX3_ways_24 rfl hl (by decide) rfl (fun ls hl => ?_)
      refine lv_iinc (v := zi (z2 + 1)) (lv' := [(4, .int (zi ((z2 + 1)))), (2, .long (zj (((z1 * ((N : Int) - z2)) / (z2 + 1))))), (0, .int (zi ((N : Int)))), (1, .int (zi ((K : Int))))]) (pc := 25) hx hb dX3_ways_25 hl (k := 3) rfl (zi_add _ _) (by decide) rfl (fun ls hl => ?_)
      refine lv_goto (tgt := 5) (pc := 28) hx hb dX3_ways_28 (by decide) ?_
      exact ih  _ _ (by rw [e1, e2]; rfl) (by rw [e2]; rfl) ls (lv_sub hl [2, 3, 1, 0] rfl)
  refine z_lconst1 (pc := 0) hx hb dX3_ways_0 ?_
  refine lv_lstore_n (lv' := [(2, .long (zj (1))), (0, .int (zi ((N : Int)))), (1, .int (zi ((K : Int))))]) (pc := 1) hx hb dX3_ways_1 rfl hl (by decide) rfl (fun ls hl => ?_)
  refine z_iconst (pc := 2) hx hb dX3_ways_2 ?_
  refine lv_istore (lv' := [(4, .int (zi (0))), (2, .long (zj (1))), (0, .int (zi ((N : Int)))), (1, .int (zi ((K : Int))))]) (pc := 3) hx hb dX3_ways_3 hl (by decide) rfl (fun ls hl => ?_)
  exact loop 0 (by omega) _ _ (by rfl) (by rfl) ls (lv_sub hl [2, 3, 1, 0] rfl)

/-- the sum of f at a, a + 1, .. (c of them) -/
def sumZ (f : Nat → Int) (a : Nat) : Nat → Int
  | 0 => 0
  | c + 1 => sumZ f a c + f (a + c)
/-- of the 10 to the Nth like cases those in which just i of N fail -/
def termZ (N : Nat) (j : Int) (i : Nat) : Int := waysZ N i * j ^ i * (10 - j) ^ (N - i)
theorem sumZ_nonneg {f : Nat → Int} {a : Nat} : ∀ c : Nat, (∀ i, i < a + c → 0 ≤ f i) → 0 ≤ sumZ f a c
  | 0, _ => by simp [sumZ]
  | c + 1, h => by
    have ih := sumZ_nonneg (f := f) (a := a) c (fun i hi => h i (by omega))
    have h1 := h (a + c) (by omega)
    simp only [sumZ]; omega
theorem sumZ_split (f : Nat → Int) (a : Nat) : ∀ c d : Nat, sumZ f a (c + d) = sumZ f a c + sumZ f (a + c) d
  | c, 0 => by simp [sumZ]
  | c, d + 1 => by
    have ih := sumZ_split f a c d
    have e : a + (c + d) = a + c + d := by omega
    rw [← Nat.add_assoc]
    simp only [sumZ]
    rw [ih, e]; omega
theorem termZ_nonneg {N i : Nat} {j : Int} (hN : N ≤ 12) (hi : i ≤ N) (hj : 0 ≤ j ∧ j ≤ 10) : 0 ≤ termZ N j i := by
  have h := waysZ_rng (n := N) (k := i) hN (by omega)
  exact Int.mul_nonneg (Int.mul_nonneg h.1 (Int.pow_nonneg hj.1)) (Int.pow_nonneg (by omega))
theorem termZ_all : ∀ N : Fin 13, ∀ j : Fin 11, sumZ (termZ N.val (j.val : Int)) 0 (N.val + 1) = 10 ^ N.val := by decide +kernel
theorem pow10_tab : ∀ N : Fin 13, (10 : Int) ^ N.val ≤ 1000000000000 ∧ (1 : Int) ≤ 10 ^ N.val := by decide +kernel
theorem pow10_rng {N : Nat} (h : N ≤ 12) : (10 : Int) ^ N ≤ 1000000000000 ∧ (1 : Int) ≤ 10 ^ N := pow10_tab ⟨N, by omega⟩
theorem cases_rng {N a c j : Nat} (hN : N ≤ 12) (hac : a + c ≤ N + 1) (hj : j ≤ 10) : 0 ≤ sumZ (termZ N (j : Int)) a c ∧ sumZ (termZ N (j : Int)) a c ≤ 10 ^ N := by
  have hf : ∀ i, i < N + 1 → 0 ≤ termZ N (j : Int) i := fun i hi => termZ_nonneg hN (by omega) (by omega)
  have h0 := sumZ_nonneg (f := termZ N (j : Int)) (a := a) c (fun i hi => hf i (by omega))
  have hall := termZ_all ⟨N, by omega⟩ ⟨j, by omega⟩
  simp only at hall
  have e : N + 1 = a + (c + (N + 1 - (a + c))) := by omega
  rw [e, sumZ_split, sumZ_split, Nat.zero_add] at hall
  have h1 := sumZ_nonneg (f := termZ N (j : Int)) (a := 0) a (fun i hi => hf i (by omega))
  have h2 := sumZ_nonneg (f := termZ N (j : Int)) (a := a + c) (N + 1 - (a + c)) (fun i hi => hf i (by omega))
  omega

set_option maxHeartbeats 4000000 in
set_option maxRecDepth 100000 in
theorem c_X3_casesOf (D : va_G) (cI cJ : ClassId) (l : Launch)  (y x q z : Int) (N a C j : Nat) (hy : y = (N : Int)) (hx0 : x = (a : Int)) (hz : z = (j : Int)) (hq : N ≤ 12 ∧ (a : Int) + C = q + 1 ∧ a + C ≤ N + 1 ∧ j ≤ 10) : RD D cI cJ l yX3_casesOf cX3_casesOf 7 (some .long) 1 24 [.int (zi (y)), .int (zi (x)), .int (zi (q)), .int (zi (z))] [] (.long (zj (sumZ (termZ N j) a C))) := by
  subst hy
  subst hx0
  subst hz
  refine RD.of (by decide) (Nat.le_of_ble_eq_true rfl) ?_
  intro p e s m args below meth c hx hb hrt hml hown hT hlk hK hP ls hl
  replace hl : lv_has ls 7 [(0, .int (zi ((N : Int)))), (1, .int (zi ((a : Int)))), (2, .int (zi (q))), (3, .int (zi ((j : Int))))] := hl
  have loop : ∀ u : Nat, u ≤ C → ∀ (z1 z2 : Int), (z1 = sumZ (termZ N j) a u) → (z2 = (a : Int) + (u : Int)) → ∀ ls : Array Slot, lv_has ls 7 [(0, .int (zi ((N : Int)))), (2, .int (zi (q))), (3, .int (zi ((j : Int)))), (4, .long (zj (z1))), (6, .int (zi (z2)))] → W p l e (RM 1 24) s m args below meth c s.heap [] 0 0 (MQ below (QR (.long (zj (sumZ (termZ N j) a C))) s.heap) args s 0 0 (fun _ => False)) (F0 m 6 ls []) := by
    refine lp_up (fun u => ∀ (z1 z2 : Int), (z1 = sumZ (termZ N j) a u) → (z2 = (a : Int) + (u : Int)) → ∀ ls : Array Slot, lv_has ls 7 [(0, .int (zi ((N : Int)))), (2, .int (zi (q))), (3, .int (zi ((j : Int)))), (4, .long (zj (z1))), (6, .int (zi (z2)))] → W p l e (RM 1 24) s m args below meth c s.heap [] 0 0 (MQ below (QR (.long (zj (sumZ (termZ N j) a C))) s.heap) args s 0 0 (fun _ => False)) (F0 m 6 ls [])) (C) ?_ ?_
    · intro z1 z2 e1 e2 ls hl
      refine lv_iload (pc := 6) hx hb dX3_casesOf_6 (lv_at hl 4 rfl) ?_
      refine lv_iload_n (pc := 8) hx hb dX3_casesOf_8 rfl (lv_at hl 1 rfl) ?_
      refine z_icmp_gt (tgt := 48) (pc := 9) hx hb dX3_casesOf_9 (by decide) (by omega) (by omega) (fun c_1 => ?_) (fun c_1 => absurd c_1 (by omega))
      refine lv_lload (pc := 48) hx hb dX3_casesOf_48 (lv_at hl 3 rfl) ?_
      exact rd_lret hx hb hrt hlk dX3_casesOf_50 (by rw [e1])
    · intro u hu ih z1 z2 e1 e2 ls hl
      refine lv_iload (pc := 6) hx hb dX3_casesOf_6 (lv_at hl 4 rfl) ?_
      refine lv_iload_n (pc := 8) hx hb dX3_casesOf_8 rfl (lv_at hl 1 rfl) ?_
      refine z_icmp_gt (tgt := 48) (pc := 9) hx hb dX3_casesOf_9 (by decide) (by omega) (by omega) (fun c_2 => absurd c_2 (by omega)) (fun c_2 => ?_)
      refine lv_lload (pc := 12) hx hb dX3_casesOf_12 (lv_at hl 3 rfl) ?_
      refine lv_iload_n (pc := 14) hx hb dX3_casesOf_14 rfl (lv_at hl 0 rfl) ?_
      refine lv_iload (pc := 15) hx hb dX3_casesOf_15 (lv_at hl 4 rfl) ?_
      refine rd_S (pc := 17) hx hb hml hown hT hK (c_X3_ways D cI cJ l ((N : Int)) (z2) N (a + u) (by omega) (by omega) (by omega)) ca_X3_ways tw_308 va_Pnil ⟨Nat.le_of_ble_eq_true rfl, Nat.le_of_ble_eq_true rfl⟩ rfl hl.1 (As := [.int (zi ((N : Int))), .int (zi (z2))]) (rest := [.long (zj (z1))]) rfl (Nat.le_of_ble_eq_true rfl) ⟨Nat.le_of_ble_eq_true rfl, Nat.le_of_ble_eq_true rfl⟩ dX3_casesOf_17 ?_
      refine lv_iload_n (pc := 20) hx hb dX3_casesOf_20 rfl (lv_at hl 2 rfl) ?_
      refine lv_iload (pc := 21) hx hb dX3_casesOf_21 (lv_at hl 4 rfl) ?_
      refine rd_S (pc := 23) hx hb hml hown hT hK (c_X3_power D cI cJ l ((j : Int)) (z2) ((a + u)) (by omega) (by omega)) ca_X3_power tw_311 va_Pnil ⟨Nat.le_of_ble_eq_true rfl, Nat.le_of_ble_eq_true rfl⟩ rfl hl.1 (As := [.int (zi ((j : Int))), .int (zi (z2))]) (rest := [.long (zj ((waysZ N (a + u)))), .long (zj (z1))]) rfl (Nat.le_of_ble_eq_true rfl) ⟨Nat.le_of_ble_eq_true rfl, Nat.le_of_ble_eq_true rfl⟩ dX3_casesOf_23 ?_
      refine z_lmul (pc := 26) hx hb dX3_casesOf_26 ?_
      refine z_bipush (pc := 27) hx hb dX3_casesOf_27 (by decide) ?_
      refine lv_iload_n (pc := 29) hx hb dX3_casesOf_29 rfl (lv_at hl 2 rfl) ?_
      refine z_isub (pc := 30) hx hb dX3_casesOf_30 ?_
      refine lv_iload_n (pc := 31) hx hb dX3_casesOf_31 rfl (lv_at hl 0 rfl) ?_
      refine lv_iload (pc := 32) hx hb dX3_casesOf_32 (lv_at hl 4 rfl) ?_
      refine z_isub (pc := 34) hx hb dX3_casesOf_34 ?_
      refine rd_S (pc := 35) hx hb hml hown hT hK (c_X3_power D cI cJ l ((10 - (j : Int))) (((N : Int) - z2)) ((N - (a + u))) (by omega) (by omega)) ca_X3_power tw_311 va_Pnil ⟨Nat.le_of_ble_eq_true rfl, Nat.le_of_ble_eq_true rfl⟩ rfl hl.1 (As := [.int (zi ((10 - (j : Int)))), .int (zi (((N : Int) - z2)))]) (rest := [.long (zj (((waysZ N (a + u)) * (((j : Int)) ^ ((a + u)))))), .long (zj (z1))]) rfl (Nat.le_of_ble_eq_true rfl) ⟨Nat.le_of_ble_eq_true rfl, Nat.le_of_ble_eq_true rfl⟩ dX3_casesOf_35 ?_
      refine z_lmul (pc := 38) hx hb dX3_casesOf_38 ?_
      refine z_ladd (pc := 39) hx hb dX3_casesOf_39 ?_
      refine lv_lstore (lv' := [(4, .long (zj ((z1 + (((waysZ N (a + u)) * (((j : Int)) ^ ((a + u)))) * (((10 - (j : Int))) ^ ((N - (a + u))))))))), (0, .int (zi ((N : Int)))), (2, .int (zi (q))), (3, .int (zi ((j : Int)))), (6, .int (zi (z2)))]) (pc := 40) hx hb dX3_casesOf_40 hl (by decide) rfl (fun ls hl => ?_)
      refine lv_iinc (v := zi (z2 + 1)) (lv' := [(6, .int (zi ((z2 + 1)))), (4, .long (zj ((z1 + (((waysZ N (a + u)) * (((j : Int)) ^ ((a + u)))) * (((10 - (j : Int))) ^ ((N - (a + u))))))))), (0, .int (zi ((N : Int)))), (2, .int (zi (q))), (3, .int (zi ((j : Int))))]) (pc := 42) hx hb dX3_casesOf_42 hl (k := 4) rfl (zi_add _ _) (by decide) rfl (fun ls hl => ?_)
      refine lv_goto (tgt := 6) (pc := 45) hx hb dX3_casesOf_45 (by decide) ?_
      exact ih  _ _ (by rw [e1]; rfl) (by omega) ls (lv_sub hl [2, 3, 4, 1, 0] rfl)
  refine z_lconst0 (pc := 0) hx hb dX3_casesOf_0 ?_
  refine lv_lstore (lv' := [(4, .long (zj (0))), (0, .int (zi ((N : Int)))), (1, .int (zi ((a : Int)))), (2, .int (zi (q))), (3, .int (zi ((j : Int))))]) (pc := 1) hx hb dX3_casesOf_1 hl (by decide) rfl (fun ls hl => ?_)
  refine lv_iload_n (pc := 3) hx hb dX3_casesOf_3 rfl (lv_at hl 2 rfl) ?_
  refine lv_istore (lv' := [(6, .int (zi ((a : Int)))), (4, .long (zj (0))), (0, .int (zi ((N : Int)))), (1, .int (zi ((a : Int)))), (2, .int (zi (q))), (3, .int (zi ((j : Int))))]) (pc := 4) hx hb dX3_casesOf_4 hl (by decide) rfl (fun ls hl => ?_)
  exact loop 0 (by omega) _ _ (by rfl) (by omega) ls (lv_sub hl [2, 4, 5, 1, 0] rfl)

set_option maxHeartbeats 4000000 in
set_option maxRecDepth 100000 in
theorem c_X3_isAtMost (D : va_G) (cI cJ : ClassId) (l : Launch)  (h y x : Int) (N : Nat) (hy : y = (N : Int)) (hq : 0 ≤ h ∧ h ≤ 50 ∧ N ≤ 12 ∧ 0 ≤ x ∧ x ≤ 1000000000000) : RD D cI cJ l yX3_isAtMost cX3_isAtMost 4 (some .boolean) 1 24 [.int (zi (h)), .int (zi (y)), .long (zj (x))] [] (.int (bI (x * 100 ≤ h * 10 ^ N))) := by
  subst hy
  refine RD.of (by decide) (Nat.le_of_ble_eq_true rfl) ?_
  intro p e s m args below meth c hx hb hrt hml hown hT hlk hK hP ls hl
  replace hl : lv_has ls 4 [(0, .int (zi (h))), (1, .int (zi ((N : Int)))), (2, .long (zj (x)))] := hl
  refine lv_lload_n (pc := 0) hx hb dX3_isAtMost_0 rfl (lv_at hl 2 rfl) ?_
  refine z_ldc2 (pc := 1) hx hb (100) hown (hT _ tw_317) (by decide) dX3_isAtMost_1 ?_
  refine z_lmul (pc := 4) hx hb dX3_isAtMost_4 ?_
  refine lv_iload_n (pc := 5) hx hb dX3_isAtMost_5 rfl (lv_at hl 0 rfl) ?_
  refine z_i2l (pc := 6) hx hb (by omega) dX3_isAtMost_6 ?_
  refine z_bipush (pc := 7) hx hb dX3_isAtMost_7 (by decide) ?_
  refine lv_iload_n (pc := 9) hx hb dX3_isAtMost_9 rfl (lv_at hl 1 rfl) ?_
  refine rd_S (pc := 10) hx hb hml hown hT hK (c_X3_power D cI cJ l (10) ((N : Int)) (N) (by omega) (by omega)) ca_X3_power tw_311 va_Pnil ⟨Nat.le_of_ble_eq_true rfl, Nat.le_of_ble_eq_true rfl⟩ rfl hl.1 (As := [.int (zi (10)), .int (zi ((N : Int)))]) (rest := [.long (zj (h)), .long (zj ((x * 100)))]) rfl (Nat.le_of_ble_eq_true rfl) ⟨Nat.le_of_ble_eq_true rfl, Nat.le_of_ble_eq_true rfl⟩ dX3_isAtMost_10 ?_
  refine z_lmul (pc := 13) hx hb dX3_isAtMost_13 ?_
  have hp := pow10_rng (N := N) (by omega)
  have hp2 := Int.mul_le_mul (show h ≤ 50 by omega) hp.1 (by omega) (by omega)
  have hp3 : 0 ≤ h * 10 ^ N := Int.mul_nonneg (by omega) (by omega)
  refine z_lcmp_gt (tgt := 22) (pc := 14) hx hb dX3_isAtMost_14 dX3_isAtMost_15 (by decide) (by omega) (by omega) (fun c_1 => ?_) (fun c_1 => ?_)
  · refine z_iconst (pc := 22) hx hb dX3_isAtMost_22 ?_
    exact rd_zret hx hb hrt hlk dX3_isAtMost_23 (bI0 (by omega))
  · refine z_iconst (pc := 18) hx hb dX3_isAtMost_18 ?_
    refine lv_goto (tgt := 23) (pc := 19) hx hb dX3_isAtMost_19 (by decide) ?_
    exact rd_zret hx hb hrt hlk dX3_isAtMost_23 (bI1 (by omega))

/-- the ends, as the class seeks them -/
def loF (T : Nat → Prop) [DecidablePred T] : Nat → Int
  | 0 => 0
  | j + 1 => if T (j + 1) then ((j + 1 : Nat) : Int) else loF T j
def hiF (T : Nat → Prop) [DecidablePred T] : Nat → Int
  | 0 => 10
  | d + 1 => if T (10 - (d + 1)) then ((10 - (d + 1) : Nat) : Int) else hiF T d
abbrev loT (N k : Nat) (h : Int) (j : Nat) : Prop := sumZ (termZ N (j : Int)) k (N + 1 - k) * 100 ≤ h * 10 ^ N
abbrev hiT (N k : Nat) (h : Int) (j : Nat) : Prop := sumZ (termZ N (j : Int)) 0 (k + 1) * 100 ≤ h * 10 ^ N

set_option maxHeartbeats 4000000 in
set_option maxRecDepth 100000 in
theorem c_X3_lowEnd (D : va_G) (cI cJ : ClassId) (l : Launch)  (y x h : Int) (N kk : Nat) (hy : y = (N : Int)) (hx0 : x = (kk : Int)) (hq : 1 ≤ N ∧ N ≤ 12 ∧ kk ≤ N ∧ 0 ≤ h ∧ h ≤ 50) : RD D cI cJ l yX3_lowEnd cX3_lowEnd 4 (some .int) 2 50 [.int (zi (y)), .int (zi (x)), .int (zi (h))] [] (.int (zi (loF (loT N kk h) 10))) := by
  subst hy
  subst hx0
  refine RD.of (by decide) (Nat.le_of_ble_eq_true rfl) ?_
  intro p e s m args below meth c hx hb hrt hml hown hT hlk hK hP ls hl
  replace hl : lv_has ls 4 [(0, .int (zi ((N : Int)))), (1, .int (zi ((kk : Int)))), (2, .int (zi (h)))] := hl
  have loop : ∀ u : Nat, u ≤ 10 → ∀ (z1 : Int), (z1 = 10 - (u : Int)) → (loF (loT N kk h) (10 - u) = loF (loT N kk h) 10) → ∀ ls : Array Slot, lv_has ls 4 [(0, .int (zi ((N : Int)))), (1, .int (zi ((kk : Int)))), (2, .int (zi (h))), (3, .int (zi (z1)))] → W p l e (RM 2 50) s m args below meth c s.heap [] 0 0 (MQ below (QR (.int (zi (loF (loT N kk h) 10))) s.heap) args s 0 0 (fun _ => False)) (F0 m 3 ls []) := by
    refine lp_up (fun u => ∀ (z1 : Int), (z1 = 10 - (u : Int)) → (loF (loT N kk h) (10 - u) = loF (loT N kk h) 10) → ∀ ls : Array Slot, lv_has ls 4 [(0, .int (zi ((N : Int)))), (1, .int (zi ((kk : Int)))), (2, .int (zi (h))), (3, .int (zi (z1)))] → W p l e (RM 2 50) s m args below meth c s.heap [] 0 0 (MQ below (QR (.int (zi (loF (loT N kk h) 10))) s.heap) args s 0 0 (fun _ => False)) (F0 m 3 ls [])) (10) ?_ ?_
    · intro z1 e1 e2 ls hl
      refine lv_iload_n (pc := 3) hx hb dX3_lowEnd_3 rfl (lv_at hl 3 rfl) ?_
      refine z_if_le (tgt := 30) (pc := 4) hx hb dX3_lowEnd_4 (by decide) (by omega) (fun c_1 => ?_) (fun c_1 => absurd c_1 (by omega))
      refine z_iconst (pc := 30) hx hb dX3_lowEnd_30 ?_
      exact rd_iret hx hb hrt hlk dX3_lowEnd_31 (by rw [← e2]; rfl)
    · intro u hu ih z1 e1 e2 ls hl
      refine lv_iload_n (pc := 3) hx hb dX3_lowEnd_3 rfl (lv_at hl 3 rfl) ?_
      refine z_if_le (tgt := 30) (pc := 4) hx hb dX3_lowEnd_4 (by decide) (by omega) (fun c_2 => absurd c_2 (by omega)) (fun c_2 => ?_)
      refine lv_iload_n (pc := 7) hx hb dX3_lowEnd_7 rfl (lv_at hl 2 rfl) ?_
      refine lv_iload_n (pc := 8) hx hb dX3_lowEnd_8 rfl (lv_at hl 0 rfl) ?_
      refine lv_iload_n (pc := 9) hx hb dX3_lowEnd_9 rfl (lv_at hl 0 rfl) ?_
      refine lv_iload_n (pc := 10) hx hb dX3_lowEnd_10 rfl (lv_at hl 1 rfl) ?_
      refine lv_iload_n (pc := 11) hx hb dX3_lowEnd_11 rfl (lv_at hl 0 rfl) ?_
      refine lv_iload_n (pc := 12) hx hb dX3_lowEnd_12 rfl (lv_at hl 3 rfl) ?_
      have hc := cases_rng (N := N) (a := kk) (c := N + 1 - kk) (j := 10 - u) (by omega) (by omega) (by omega)
      have hp := pow10_rng (N := N) (by omega)
      obtain ⟨w, hw⟩ : ∃ w, 10 - u = w + 1 := ⟨9 - u, by omega⟩
      have ej : 10 - u = (10 - (u + 1)) + 1 := by omega
      refine rd_S (pc := 13) hx hb hml hown hT hK (c_X3_casesOf D cI cJ l ((N : Int)) ((kk : Int)) ((N : Int)) (z1) N kk (N + 1 - kk) (10 - u) (by omega) (by omega) (by omega) (by omega)) ca_X3_casesOf tw_305 va_Pnil ⟨Nat.le_of_ble_eq_true rfl, Nat.le_of_ble_eq_true rfl⟩ rfl hl.1 (As := [.int (zi ((N : Int))), .int (zi ((kk : Int))), .int (zi ((N : Int))), .int (zi (z1))]) (rest := [.int (zi ((N : Int))), .int (zi (h))]) rfl (Nat.le_of_ble_eq_true rfl) ⟨Nat.le_of_ble_eq_true rfl, Nat.le_of_ble_eq_true rfl⟩ dX3_lowEnd_13 ?_
      refine rd_S (pc := 16) hx hb hml hown hT hK (c_X3_isAtMost D cI cJ l (h) ((N : Int)) ((sumZ (termZ N (((10 - u) : Nat) : Int)) kk (N + 1 - kk))) N (by omega) (by omega)) ca_X3_isAtMost tw_314 va_Pnil ⟨Nat.le_of_ble_eq_true rfl, Nat.le_of_ble_eq_true rfl⟩ rfl hl.1 (As := [.int (zi (h)), .int (zi ((N : Int))), .long (zj ((sumZ (termZ N (((10 - u) : Nat) : Int)) kk (N + 1 - kk))))]) (rest := []) rfl (Nat.le_of_ble_eq_true rfl) ⟨Nat.le_of_ble_eq_true rfl, Nat.le_of_ble_eq_true rfl⟩ dX3_lowEnd_16 ?_
      refine z_ifB_eq (tgt := 24) (pc := 19) hx hb dX3_lowEnd_19 (by decide) (fun c_3 => ?_) (fun c_3 => ?_)
      · refine lv_iinc (v := zi (z1 + (-1))) (lv' := [(3, .int (zi ((z1 + (-1))))), (0, .int (zi ((N : Int)))), (1, .int (zi ((kk : Int)))), (2, .int (zi (h)))]) (pc := 24) hx hb dX3_lowEnd_24 hl (k := 3) rfl (zi_add _ _) (by decide) rfl (fun ls hl => ?_)
        refine lv_goto (tgt := 3) (pc := 27) hx hb dX3_lowEnd_27 (by decide) ?_
        exact ih  _ (by omega) (by rw [← e2, ej, loF, if_neg (by rw [← ej]; exact c_3)]) ls (lv_sub hl [1, 2, 3, 0] rfl)
      · refine lv_iload_n (pc := 22) hx hb dX3_lowEnd_22 rfl (lv_at hl 3 rfl) ?_
        exact rd_iret hx hb hrt hlk dX3_lowEnd_23 (by rw [← e2, ej, loF, if_pos (by rw [← ej]; exact c_3), ← ej, show z1 = ((10 - u : Nat) : Int) by omega])
  refine z_bipush (pc := 0) hx hb dX3_lowEnd_0 (by decide) ?_
  refine lv_istore_n (lv' := [(3, .int (zi (10))), (0, .int (zi ((N : Int)))), (1, .int (zi ((kk : Int)))), (2, .int (zi (h)))]) (pc := 2) hx hb dX3_lowEnd_2 rfl hl (by decide) rfl (fun ls hl => ?_)
  exact loop 0 (by omega) _ (by omega) (by rfl) ls (lv_sub hl [1, 2, 3, 0] rfl)

set_option maxHeartbeats 4000000 in
set_option maxRecDepth 100000 in
theorem c_X3_highEnd (D : va_G) (cI cJ : ClassId) (l : Launch)  (y x h : Int) (N kk : Nat) (hy : y = (N : Int)) (hx0 : x = (kk : Int)) (hq : 1 ≤ N ∧ N ≤ 12 ∧ kk ≤ N ∧ 0 ≤ h ∧ h ≤ 50) : RD D cI cJ l yX3_highEnd cX3_highEnd 4 (some .int) 2 50 [.int (zi (y)), .int (zi (x)), .int (zi (h))] [] (.int (zi (hiF (hiT N kk h) 10))) := by
  subst hy
  subst hx0
  refine RD.of (by decide) (Nat.le_of_ble_eq_true rfl) ?_
  intro p e s m args below meth c hx hb hrt hml hown hT hlk hK hP ls hl
  replace hl : lv_has ls 4 [(0, .int (zi ((N : Int)))), (1, .int (zi ((kk : Int)))), (2, .int (zi (h)))] := hl
  have loop : ∀ u : Nat, u ≤ 10 → ∀ (z1 : Int), (z1 = (u : Int)) → (hiF (hiT N kk h) (10 - u) = hiF (hiT N kk h) 10) → ∀ ls : Array Slot, lv_has ls 4 [(0, .int (zi ((N : Int)))), (1, .int (zi ((kk : Int)))), (2, .int (zi (h))), (3, .int (zi (z1)))] → W p l e (RM 2 50) s m args below meth c s.heap [] 0 0 (MQ below (QR (.int (zi (hiF (hiT N kk h) 10))) s.heap) args s 0 0 (fun _ => False)) (F0 m 2 ls []) := by
    refine lp_up (fun u => ∀ (z1 : Int), (z1 = (u : Int)) → (hiF (hiT N kk h) (10 - u) = hiF (hiT N kk h) 10) → ∀ ls : Array Slot, lv_has ls 4 [(0, .int (zi ((N : Int)))), (1, .int (zi ((kk : Int)))), (2, .int (zi (h))), (3, .int (zi (z1)))] → W p l e (RM 2 50) s m args below meth c s.heap [] 0 0 (MQ below (QR (.int (zi (hiF (hiT N kk h) 10))) s.heap) args s 0 0 (fun _ => False)) (F0 m 2 ls [])) (10) ?_ ?_
    · intro z1 e1 e2 ls hl
      refine lv_iload_n (pc := 2) hx hb dX3_highEnd_2 rfl (lv_at hl 3 rfl) ?_
      refine z_bipush (pc := 3) hx hb dX3_highEnd_3 (by decide) ?_
      refine z_icmp_ge (tgt := 31) (pc := 5) hx hb dX3_highEnd_5 (by decide) (by omega) (by omega) (fun c_1 => ?_) (fun c_1 => absurd c_1 (by omega))
      refine z_bipush (pc := 31) hx hb dX3_highEnd_31 (by decide) ?_
      exact rd_iret hx hb hrt hlk dX3_highEnd_33 (by rw [← e2]; rfl)
    · intro u hu ih z1 e1 e2 ls hl
      refine lv_iload_n (pc := 2) hx hb dX3_highEnd_2 rfl (lv_at hl 3 rfl) ?_
      refine z_bipush (pc := 3) hx hb dX3_highEnd_3 (by decide) ?_
      refine z_icmp_ge (tgt := 31) (pc := 5) hx hb dX3_highEnd_5 (by decide) (by omega) (by omega) (fun c_2 => absurd c_2 (by omega)) (fun c_2 => ?_)
      refine lv_iload_n (pc := 8) hx hb dX3_highEnd_8 rfl (lv_at hl 2 rfl) ?_
      refine lv_iload_n (pc := 9) hx hb dX3_highEnd_9 rfl (lv_at hl 0 rfl) ?_
      refine lv_iload_n (pc := 10) hx hb dX3_highEnd_10 rfl (lv_at hl 0 rfl) ?_
      refine z_iconst (pc := 11) hx hb dX3_highEnd_11 ?_
      refine lv_iload_n (pc := 12) hx hb dX3_highEnd_12 rfl (lv_at hl 1 rfl) ?_
      refine lv_iload_n (pc := 13) hx hb dX3_highEnd_13 rfl (lv_at hl 3 rfl) ?_
      have hc := cases_rng (N := N) (a := 0) (c := kk + 1) (j := u) (by omega) (by omega) (by omega)
      have hp := pow10_rng (N := N) (by omega)
      have ej : 10 - u = (10 - (u + 1)) + 1 := by omega
      have ek : 10 - (10 - (u + 1) + 1) = u := by omega
      refine rd_S (pc := 14) hx hb hml hown hT hK (c_X3_casesOf D cI cJ l ((N : Int)) (0) ((kk : Int)) (z1) N 0 (kk + 1) u (by omega) (by omega) (by omega) (by omega)) ca_X3_casesOf tw_305 va_Pnil ⟨Nat.le_of_ble_eq_true rfl, Nat.le_of_ble_eq_true rfl⟩ rfl hl.1 (As := [.int (zi ((N : Int))), .int (zi (0)), .int (zi ((kk : Int))), .int (zi (z1))]) (rest := [.int (zi ((N : Int))), .int (zi (h))]) rfl (Nat.le_of_ble_eq_true rfl) ⟨Nat.le_of_ble_eq_true rfl, Nat.le_of_ble_eq_true rfl⟩ dX3_highEnd_14 ?_
      refine rd_S (pc := 17) hx hb hml hown hT hK (c_X3_isAtMost D cI cJ l (h) ((N : Int)) ((sumZ (termZ N ((u : Nat) : Int)) 0 (kk + 1))) N (by omega) (by omega)) ca_X3_isAtMost tw_314 va_Pnil ⟨Nat.le_of_ble_eq_true rfl, Nat.le_of_ble_eq_true rfl⟩ rfl hl.1 (As := [.int (zi (h)), .int (zi ((N : Int))), .long (zj ((sumZ (termZ N ((u : Nat) : Int)) 0 (kk + 1))))]) (rest := []) rfl (Nat.le_of_ble_eq_true rfl) ⟨Nat.le_of_ble_eq_true rfl, Nat.le_of_ble_eq_true rfl⟩ dX3_highEnd_17 ?_
      refine z_ifB_eq (tgt := 25) (pc := 20) hx hb dX3_highEnd_20 (by decide) (fun c_3 => ?_) (fun c_3 => ?_)
      · refine lv_iinc (v := zi (z1 + 1)) (lv' := [(3, .int (zi ((z1 + 1)))), (0, .int (zi ((N : Int)))), (1, .int (zi ((kk : Int)))), (2, .int (zi (h)))]) (pc := 25) hx hb dX3_highEnd_25 hl (k := 3) rfl (zi_add _ _) (by decide) rfl (fun ls hl => ?_)
        refine lv_goto (tgt := 2) (pc := 28) hx hb dX3_highEnd_28 (by decide) ?_
        exact ih  _ (by omega) (by rw [← e2, ej, hiF, if_neg (by rw [ek]; exact c_3)]) ls (lv_sub hl [1, 2, 3, 0] rfl)
      · refine lv_iload_n (pc := 23) hx hb dX3_highEnd_23 rfl (lv_at hl 3 rfl) ?_
        exact rd_iret hx hb hrt hlk dX3_highEnd_24 (by rw [← e2, ej, hiF, if_pos (by rw [ek]; exact c_3), ek, e1])
  refine z_iconst (pc := 0) hx hb dX3_highEnd_0 ?_
  refine lv_istore_n (lv' := [(3, .int (zi (0))), (0, .int (zi ((N : Int)))), (1, .int (zi ((kk : Int)))), (2, .int (zi (h)))]) (pc := 1) hx hb dX3_highEnd_1 rfl hl (by decide) rfl (fun ls hl => ?_)
  exact loop 0 (by omega) _ (by omega) (by rfl) ls (lv_sub hl [1, 2, 3, 0] rfl)
