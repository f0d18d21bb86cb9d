/-! what the calls of STANDING answer -/
abbrev okS (S b : Int) : Prop := (0 ≤ S ∧ S ≤ 15) ∧ (-1 ≤ b ∧ b ≤ 2)
def leftV (n : Int) (st hr ca : Nat → Int) (S b t w : Int) : Int := if okS S b ∧ (0 ≤ t ∧ t ≤ 500) ∧ (0 ≤ w ∧ w ≤ 1) then (if w = 0 then (rdU (lev (FF n st hr ca S b) (RR n st hr S) t.toNat) (lev (FF n st hr ca S b) (RR n st hr S) 0) : Int) else (rdL (lev (FF n st hr ca S b) (RR n st hr S) t.toNat) (lev (FF n st hr ca S b) (RR n st hr S) 0) : Int)) else -1002
def timeV (n : Int) (st hr ca : Nat → Int) (S b x y : Int) : Int := if okS S b ∧ (1 ≤ y ∧ y ≤ 1000) ∧ (0 ≤ x ∧ x ≤ y) then timeF (tmT (FF n st hr ca S b) (RR n st hr S) x y) 501 else -1002
def meanV (n : Int) (st hr ca : Nat → Int) (S b h w : Int) : Int := if okS S b ∧ (1 ≤ h ∧ h ≤ 500) ∧ (0 ≤ w ∧ w ≤ 1) then (if w = 0 then (rdU (sumL (lev (FF n st hr ca S b) (RR n st hr S)) 0 (h.toNat - 0)) (lev (FF n st hr ca S b) (RR n st hr S) 0) : Int) else (rdL (sumL (lev (FF n st hr ca S b) (RR n st hr S)) 0 (h.toNat - 0)) (lev (FF n st hr ca S b) (RR n st hr S) 0) : Int)) else -1002
def restV (n : Int) (st hr ca : Nat → Int) (S b x h w : Int) : Int := if okS S b ∧ (1 ≤ h ∧ h ≤ 500) ∧ (0 ≤ x ∧ x ≤ h - 1) ∧ (0 ≤ w ∧ w ≤ 1) then (if lev (FF n st hr ca S b) (RR n st hr S) x.toNat = 0 then -1003 else (if w = 0 then (rdU (sumL (lev (FF n st hr ca S b) (RR n st hr S)) x.toNat (h.toNat - x.toNat)) (lev (FF n st hr ca S b) (RR n st hr S) x.toNat) : Int) else (rdL (sumL (lev (FF n st hr ca S b) (RR n st hr S)) x.toNat (h.toNat - x.toNat)) (lev (FF n st hr ca S b) (RR n st hr S) x.toNat) : Int))) else -1002
def runInV (n : Int) (st hr ca : Nat → Int) (S b h q : Int) : Int := if okS S b ∧ (1 ≤ h ∧ h ≤ 500) ∧ (0 ≤ q ∧ q ≤ 100) then (bestF (FF n st hr ca S b) (RR n st hr S) h.toNat q h.toNat : Int) else -1002
theorem sum_rng {F R : Nat → Nat} (hs : STd F R) {B E : Nat} (hE : E ≤ 500) : sumL (lev F R) B (E - B) ≤ 239500800000 := by
  have h1 : sumL (lev F R) B (E - B) ≤ 479001600 * (E - B) := sumL_le (E - B) (fun x h1 h2 => lev_rng hs (by omega))
  have h2 : 479001600 * (E - B) ≤ 479001600 * 500 := Nat.mul_le_mul_left _ (by omega)
  omega
theorem timeF_rng {T : Nat → Prop} [DecidablePred T] : ∀ d, -1 ≤ timeF T d ∧ timeF T d ≤ 500
  | 0 => by simp [timeF]
  | d + 1 => by
    have ih := timeF_rng (T := T) d
    simp only [timeF]; split <;> omega

set_option maxHeartbeats 4000000 in
set_option maxRecDepth 100000 in
theorem c_X3_left (D : va_G) (cI cJ : ClassId) (l : Launch) (ad : Nat → Nat) (n : Int) (st hr ca : Nat → Int) (pcs : Int) (fr lv : Nat → Int) (k : Int) (ts th sp hv : Nat → Int) (pr hc : Int) (hU : VU n st hr ca) (S : Int) (r_S : -2147483648 ≤ S ∧ S ≤ 2147483647) (b : Int) (r_b : -2147483648 ≤ b ∧ b ≤ 2147483647) (t : Int) (r_t : -2147483648 ≤ t ∧ t ≤ 2147483647) (w : Int) (r_w : -2147483648 ≤ w ∧ w ≤ 2147483647) : WR D cI cJ l yX3_left cX3_left 5 (some .long) 4 96 [.ref (ad 0), .int (zi (S)), .int (zi (b)), .int (zi (t)), .int (zi (w))] (wX ad cI cJ n st hr ca pcs fr lv k ts th sp hv pr hc) (fun v' ws' => v' = .long (zj (leftV n st hr ca S b t w)) ∧ ∃ (pcs' : Int) (fr' lv' : Nat → Int), ws' = (wX ad cI cJ n st hr ca pcs' fr' lv' k ts th sp hv pr hc)) := by
  refine WR.of (by decide) (Nat.le_of_ble_eq_true rfl) ?_
  intro p e s m args below meth c hx hb hrt hml hown hT hlk hK hP hD hS ls hl
  replace hl : lv_has ls 5 [(0, .ref (ad 0)), (1, .int (zi (S))), (2, .int (zi (b))), (3, .int (zi (t))), (4, .int (zi (w)))] := hl
  refine lv_iload_n (pc := 0) hx hb dX3_left_0 rfl (lv_at hl 1 rfl) ?_
  refine lv_iload_n (pc := 1) hx hb dX3_left_1 rfl (lv_at hl 2 rfl) ?_
  refine rd_S (pc := 2) hx hb hml hown hT hK (c_X3_isSetByCause D cI cJ l (S) (by omega) (b) (by omega)) ca_X3_isSetByCause tw_164 va_Pnil ⟨Nat.le_of_ble_eq_true rfl, Nat.le_of_ble_eq_true rfl⟩ rfl hl.1 (As := [.int (zi (S)), .int (zi (b))]) (rest := []) rfl (Nat.le_of_ble_eq_true rfl) ⟨Nat.le_of_ble_eq_true rfl, Nat.le_of_ble_eq_true rfl⟩ dX3_left_2 ?_
  refine z_ifB_eq (tgt := 29) (pc := 5) hx hb dX3_left_5 (by decide) (fun c_1 => ?_) (fun c_1 => ?_)
  · refine z_ldc2 (pc := 29) hx hb (-1002) hown (hT _ tw_167) (by decide) dX3_left_29 ?_
    exact wr_lret hx hb hrt hlk dX3_left_32 hP hS (⟨by rw [leftV, if_neg (by omega)], pcs, fr, lv, rfl⟩)
  · refine lv_iload_n (pc := 8) hx hb dX3_left_8 rfl (lv_at hl 3 rfl) ?_
    refine z_iconst (pc := 9) hx hb dX3_left_9 ?_
    refine z_sipush (pc := 10) hx hb dX3_left_10 (by decide) ?_
    refine rd_S (pc := 13) hx hb hml hown hT hK (c_X3_isWithin D cI cJ l (t) (by omega) (0) (by omega) (500) (by omega)) ca_X3_isWithin tw_107 va_Pnil ⟨Nat.le_of_ble_eq_true rfl, Nat.le_of_ble_eq_true rfl⟩ rfl hl.1 (As := [.int (zi (t)), .int (zi (0)), .int (zi (500))]) (rest := []) rfl (Nat.le_of_ble_eq_true rfl) ⟨Nat.le_of_ble_eq_true rfl, Nat.le_of_ble_eq_true rfl⟩ dX3_left_13 ?_
    refine z_ifB_eq (tgt := 29) (pc := 16) hx hb dX3_left_16 (by decide) (fun c_2 => ?_) (fun c_2 => ?_)
    · refine z_ldc2 (pc := 29) hx hb (-1002) hown (hT _ tw_167) (by decide) dX3_left_29 ?_
      exact wr_lret hx hb hrt hlk dX3_left_32 hP hS (⟨by rw [leftV, if_neg (by omega)], pcs, fr, lv, rfl⟩)
    · refine lv_iload (pc := 19) hx hb dX3_left_19 (lv_at hl 4 rfl) ?_
      refine z_iconst (pc := 21) hx hb dX3_left_21 ?_
      refine z_iconst (pc := 22) hx hb dX3_left_22 ?_
      refine rd_S (pc := 23) hx hb hml hown hT hK (c_X3_isWithin D cI cJ l (w) (by omega) (0) (by omega) (1) (by omega)) ca_X3_isWithin tw_107 va_Pnil ⟨Nat.le_of_ble_eq_true rfl, Nat.le_of_ble_eq_true rfl⟩ rfl hl.1 (As := [.int (zi (w)), .int (zi (0)), .int (zi (1))]) (rest := []) rfl (Nat.le_of_ble_eq_true rfl) ⟨Nat.le_of_ble_eq_true rfl, Nat.le_of_ble_eq_true rfl⟩ dX3_left_23 ?_
      refine z_ifB_ne (tgt := 33) (pc := 26) hx hb dX3_left_26 (by decide) (fun c_3 => ?_) (fun c_3 => ?_)
      · refine lv_aload_n (pc := 33) hx hb dX3_left_33 rfl (lv_at hl 0 rfl) ?_
        refine va_get (D := D) (cl := vwCl) (ci := 3) (v := .ref (ad 2)) (C := RX3) (T := TX3) (N := 7) (pc := 34) hx hb hT inT3 hown hK.1 hP 0 rfl rfl 1 (by decide) (hT _ tw_76) (fun _ h9 => h9) rfl dX3_left_34 ?_
        refine lv_aload_n (pc := 37) hx hb dX3_left_37 rfl (lv_at hl 0 rfl) ?_
        refine va_get (D := D) (cl := vwCl) (ci := 3) (v := .ref (ad 1)) (C := RX3) (T := TX3) (N := 7) (pc := 38) hx hb hT inT3 hown hK.1 hP 0 rfl rfl 0 (by decide) (hT _ tw_75) (fun _ h9 => h9) rfl dX3_left_38 ?_
        refine lv_iload_n (pc := 41) hx hb dX3_left_41 rfl (lv_at hl 1 rfl) ?_
        refine lv_iload_n (pc := 42) hx hb dX3_left_42 rfl (lv_at hl 2 rfl) ?_
        refine wv_V (pc := 43) hx hb hml hown hT hK (c_X0_look D cI cJ l ad n st hr ca pcs fr lv k ts th sp hv pr hc hU (S) (by omega) (b) (by omega)) ca_X0_look tw_168 hP hD hS (fun q h => inW_same (by rfl) h) 2 0 rfl rfl rfl ⟨Nat.le_of_ble_eq_true rfl, Nat.le_of_ble_eq_true rfl⟩ rfl hl.1 (As := [.ref (ad 1), .int (zi (S)), .int (zi (b))]) (rest := []) rfl (Nat.le_of_ble_eq_true rfl) ⟨Nat.le_of_ble_eq_true rfl, Nat.le_of_ble_eq_true rfl⟩ dX3_left_43 (fun ws_ H locs hΦ hP hz_ hk_ hS => ?_)
        obtain ⟨i_4, φ_4, fr_4, lv_4, hE_4, rfl⟩ := hΦ
        replace hD : va_D (inW (wX ad cI cJ n st hr ca pcs fr lv k ts th sp hv pr hc)) (wX ad cI cJ n st hr ca (((i_4 : Int) + 1)) fr_4 lv_4 k ts th sp hv pr hc) := hD.same rfl
        refine lv_aload_n (pc := 46) hx hb dX3_left_46 rfl (lv_at hl 0 rfl) ?_
        refine va_get (D := D) (cl := vwCl) (ci := 3) (v := .ref (ad 2)) (C := RX3) (T := TX3) (N := 7) (pc := 47) hx hb hT inT3 hown hK.1 hP 0 rfl rfl 1 (by decide) (hT _ tw_76) (fun _ h9 => h9) rfl dX3_left_47 ?_
        refine lv_iload_n (pc := 50) hx hb dX3_left_50 rfl (lv_at hl 3 rfl) ?_
        have hs := ST_of hU S b
        have hl1 := lev_rng hs (t := t.toNat) (by omega)
        have hl0 := lev_0 hs
        refine rd_V (pc := 51) hx hb hml hown hT hK (c_X0_levelAt D cI cJ l ad n st hr ca (((i_4 : Int) + 1)) fr_4 lv_4 k ts th sp hv pr hc (FF n st hr ca S b) (RR n st hr S) (ST_of hU _ _) i_4 φ_4 hE_4 rfl (t) t.toNat (by omega) (by omega)) ca_X0_levelAt tw_189 hP 2 0 rfl rfl rfl ⟨Nat.le_of_ble_eq_true rfl, Nat.le_of_ble_eq_true rfl⟩ rfl hl.1 (As := [.int (zi (t))]) (rest := []) rfl (Nat.le_of_ble_eq_true rfl) ⟨Nat.le_of_ble_eq_true rfl, Nat.le_of_ble_eq_true rfl⟩ dX3_left_51 ?_
        refine lv_aload_n (pc := 54) hx hb dX3_left_54 rfl (lv_at hl 0 rfl) ?_
        refine va_get (D := D) (cl := vwCl) (ci := 3) (v := .ref (ad 2)) (C := RX3) (T := TX3) (N := 7) (pc := 55) hx hb hT inT3 hown hK.1 hP 0 rfl rfl 1 (by decide) (hT _ tw_76) (fun _ h9 => h9) rfl dX3_left_55 ?_
        refine rd_V (pc := 58) hx hb hml hown hT hK (c_X0_whole D cI cJ l ad n st hr ca (((i_4 : Int) + 1)) fr_4 lv_4 k ts th sp hv pr hc (FF n st hr ca S b) (RR n st hr S) (ST_of hU _ _) i_4 φ_4 hE_4 rfl) ca_X0_whole tw_193 hP 2 0 rfl rfl rfl ⟨Nat.le_of_ble_eq_true rfl, Nat.le_of_ble_eq_true rfl⟩ rfl hl.1 (As := []) (rest := [.long (zj ((lev (FF n st hr ca S b) (RR n st hr S) t.toNat : Int)))]) rfl (Nat.le_of_ble_eq_true rfl) ⟨Nat.le_of_ble_eq_true rfl, Nat.le_of_ble_eq_true rfl⟩ dX3_left_58 ?_
        refine lv_iload (pc := 61) hx hb dX3_left_61 (lv_at hl 4 rfl) ?_
        refine rd_S (pc := 63) hx hb hml hown hT hK (c_X3_leastTerms D cI cJ l ((lev (FF n st hr ca S b) (RR n st hr S) t.toNat : Int)) ((lev (FF n st hr ca S b) (RR n st hr S) 0 : Int)) (w) (lev (FF n st hr ca S b) (RR n st hr S) t.toNat) (lev (FF n st hr ca S b) (RR n st hr S) 0) (by omega) (by omega) (by omega) (by omega)) ca_X3_leastTerms tw_197 va_Pnil ⟨Nat.le_of_ble_eq_true rfl, Nat.le_of_ble_eq_true rfl⟩ rfl hl.1 (As := [.long (zj ((lev (FF n st hr ca S b) (RR n st hr S) t.toNat : Int))), .long (zj ((lev (FF n st hr ca S b) (RR n st hr S) 0 : Int))), .int (zi (w))]) (rest := []) rfl (Nat.le_of_ble_eq_true rfl) ⟨Nat.le_of_ble_eq_true rfl, Nat.le_of_ble_eq_true rfl⟩ dX3_left_63 ?_
        exact wr_lret hx hb hrt hlk dX3_left_66 hP hS (⟨congrArg (fun z => Value.long (zj z)) (if_pos (show okS S b ∧ (0 ≤ t ∧ t ≤ 500) ∧ (0 ≤ w ∧ w ≤ 1) by omega)).symm, _, _, _, rfl⟩)
      · refine z_ldc2 (pc := 29) hx hb (-1002) hown (hT _ tw_167) (by decide) dX3_left_29 ?_
        exact wr_lret hx hb hrt hlk dX3_left_32 hP hS (⟨by rw [leftV, if_neg (by omega)], pcs, fr, lv, rfl⟩)

set_option maxHeartbeats 4000000 in
set_option maxRecDepth 100000 in
theorem c_X3_time (D : va_G) (cI cJ : ClassId) (l : Launch) (ad : Nat → Nat) (n : Int) (st hr ca : Nat → Int) (pcs : Int) (fr lv : Nat → Int) (k : Int) (ts th sp hv : Nat → Int) (pr hc : Int) (hU : VU n st hr ca) (S : Int) (r_S : -2147483648 ≤ S ∧ S ≤ 2147483647) (b : Int) (r_b : -2147483648 ≤ b ∧ b ≤ 2147483647) (x : Int) (r_x : -2147483648 ≤ x ∧ x ≤ 2147483647) (y : Int) (r_y : -2147483648 ≤ y ∧ y ≤ 2147483647) : WR D cI cJ l yX3_time cX3_time 5 (some .int) 4 96 [.ref (ad 0), .int (zi (S)), .int (zi (b)), .int (zi (x)), .int (zi (y))] (wX ad cI cJ n st hr ca pcs fr lv k ts th sp hv pr hc) (fun v' ws' => v' = .int (zi (timeV n st hr ca S b x y)) ∧ ∃ (pcs' : Int) (fr' lv' : Nat → Int), ws' = (wX ad cI cJ n st hr ca pcs' fr' lv' k ts th sp hv pr hc)) := by
  refine WR.of (by decide) (Nat.le_of_ble_eq_true rfl) ?_
  intro p e s m args below meth c hx hb hrt hml hown hT hlk hK hP hD hS ls hl
  replace hl : lv_has ls 5 [(0, .ref (ad 0)), (1, .int (zi (S))), (2, .int (zi (b))), (3, .int (zi (x))), (4, .int (zi (y)))] := hl
  refine lv_iload_n (pc := 0) hx hb dX3_time_0 rfl (lv_at hl 1 rfl) ?_
  refine lv_iload_n (pc := 1) hx hb dX3_time_1 rfl (lv_at hl 2 rfl) ?_
  refine rd_S (pc := 2) hx hb hml hown hT hK (c_X3_isSetByCause D cI cJ l (S) (by omega) (b) (by omega)) ca_X3_isSetByCause tw_164 va_Pnil ⟨Nat.le_of_ble_eq_true rfl, Nat.le_of_ble_eq_true rfl⟩ rfl hl.1 (As := [.int (zi (S)), .int (zi (b))]) (rest := []) rfl (Nat.le_of_ble_eq_true rfl) ⟨Nat.le_of_ble_eq_true rfl, Nat.le_of_ble_eq_true rfl⟩ dX3_time_2 ?_
  refine z_ifB_eq (tgt := 30) (pc := 5) hx hb dX3_time_5 (by decide) (fun c_1 => ?_) (fun c_1 => ?_)
  · refine z_sipush (pc := 30) hx hb dX3_time_30 (by decide) ?_
    exact wr_iret hx hb hrt hlk dX3_time_33 hP hS (⟨by rw [timeV, if_neg (by omega)], pcs, fr, lv, rfl⟩)
  · refine lv_iload (pc := 8) hx hb dX3_time_8 (lv_at hl 4 rfl) ?_
    refine z_iconst (pc := 10) hx hb dX3_time_10 ?_
    refine z_sipush (pc := 11) hx hb dX3_time_11 (by decide) ?_
    refine rd_S (pc := 14) hx hb hml hown hT hK (c_X3_isWithin D cI cJ l (y) (by omega) (1) (by omega) (1000) (by omega)) ca_X3_isWithin tw_107 va_Pnil ⟨Nat.le_of_ble_eq_true rfl, Nat.le_of_ble_eq_true rfl⟩ rfl hl.1 (As := [.int (zi (y)), .int (zi (1)), .int (zi (1000))]) (rest := []) rfl (Nat.le_of_ble_eq_true rfl) ⟨Nat.le_of_ble_eq_true rfl, Nat.le_of_ble_eq_true rfl⟩ dX3_time_14 ?_
    refine z_ifB_eq (tgt := 30) (pc := 17) hx hb dX3_time_17 (by decide) (fun c_2 => ?_) (fun c_2 => ?_)
    · refine z_sipush (pc := 30) hx hb dX3_time_30 (by decide) ?_
      exact wr_iret hx hb hrt hlk dX3_time_33 hP hS (⟨by rw [timeV, if_neg (by omega)], pcs, fr, lv, rfl⟩)
    · refine lv_iload_n (pc := 20) hx hb dX3_time_20 rfl (lv_at hl 3 rfl) ?_
      refine z_iconst (pc := 21) hx hb dX3_time_21 ?_
      refine lv_iload (pc := 22) hx hb dX3_time_22 (lv_at hl 4 rfl) ?_
      refine rd_S (pc := 24) hx hb hml hown hT hK (c_X3_isWithin D cI cJ l (x) (by omega) (0) (by omega) (y) (by omega)) ca_X3_isWithin tw_107 va_Pnil ⟨Nat.le_of_ble_eq_true rfl, Nat.le_of_ble_eq_true rfl⟩ rfl hl.1 (As := [.int (zi (x)), .int (zi (0)), .int (zi (y))]) (rest := []) rfl (Nat.le_of_ble_eq_true rfl) ⟨Nat.le_of_ble_eq_true rfl, Nat.le_of_ble_eq_true rfl⟩ dX3_time_24 ?_
      refine z_ifB_ne (tgt := 34) (pc := 27) hx hb dX3_time_27 (by decide) (fun c_3 => ?_) (fun c_3 => ?_)
      · refine lv_aload_n (pc := 34) hx hb dX3_time_34 rfl (lv_at hl 0 rfl) ?_
        refine va_get (D := D) (cl := vwCl) (ci := 3) (v := .ref (ad 2)) (C := RX3) (T := TX3) (N := 7) (pc := 35) hx hb hT inT3 hown hK.1 hP 0 rfl rfl 1 (by decide) (hT _ tw_76) (fun _ h9 => h9) rfl dX3_time_35 ?_
        refine lv_aload_n (pc := 38) hx hb dX3_time_38 rfl (lv_at hl 0 rfl) ?_
        refine va_get (D := D) (cl := vwCl) (ci := 3) (v := .ref (ad 1)) (C := RX3) (T := TX3) (N := 7) (pc := 39) hx hb hT inT3 hown hK.1 hP 0 rfl rfl 0 (by decide) (hT _ tw_75) (fun _ h9 => h9) rfl dX3_time_39 ?_
        refine lv_iload_n (pc := 42) hx hb dX3_time_42 rfl (lv_at hl 1 rfl) ?_
        refine lv_iload_n (pc := 43) hx hb dX3_time_43 rfl (lv_at hl 2 rfl) ?_
        refine wv_V (pc := 44) hx hb hml hown hT hK (c_X0_look D cI cJ l ad n st hr ca pcs fr lv k ts th sp hv pr hc hU (S) (by omega) (b) (by omega)) ca_X0_look tw_168 hP hD hS (fun q h => inW_same (by rfl) h) 2 0 rfl rfl rfl ⟨Nat.le_of_ble_eq_true rfl, Nat.le_of_ble_eq_true rfl⟩ rfl hl.1 (As := [.ref (ad 1), .int (zi (S)), .int (zi (b))]) (rest := []) rfl (Nat.le_of_ble_eq_true rfl) ⟨Nat.le_of_ble_eq_true rfl, Nat.le_of_ble_eq_true rfl⟩ dX3_time_44 (fun ws_ H locs hΦ hP hz_ hk_ hS => ?_)
        obtain ⟨i_4, φ_4, fr_4, lv_4, hE_4, rfl⟩ := hΦ
        replace hD : va_D (inW (wX ad cI cJ n st hr ca pcs fr lv k ts th sp hv pr hc)) (wX ad cI cJ n st hr ca (((i_4 : Int) + 1)) fr_4 lv_4 k ts th sp hv pr hc) := hD.same rfl
        refine lv_aload_n (pc := 47) hx hb dX3_time_47 rfl (lv_at hl 0 rfl) ?_
        refine va_get (D := D) (cl := vwCl) (ci := 3) (v := .ref (ad 2)) (C := RX3) (T := TX3) (N := 7) (pc := 48) hx hb hT inT3 hown hK.1 hP 0 rfl rfl 1 (by decide) (hT _ tw_76) (fun _ h9 => h9) rfl dX3_time_48 ?_
        refine lv_iload_n (pc := 51) hx hb dX3_time_51 rfl (lv_at hl 3 rfl) ?_
        refine lv_iload (pc := 52) hx hb dX3_time_52 (lv_at hl 4 rfl) ?_
        refine rd_V (pc := 54) hx hb hml hown hT hK (c_X0_firstAtMost D cI cJ l ad n st hr ca (((i_4 : Int) + 1)) fr_4 lv_4 k ts th sp hv pr hc (FF n st hr ca S b) (RR n st hr S) (ST_of hU _ _) i_4 φ_4 hE_4 rfl (x) (y) (by omega)) ca_X0_firstAtMost tw_207 hP 2 0 rfl rfl rfl ⟨Nat.le_of_ble_eq_true rfl, Nat.le_of_ble_eq_true rfl⟩ rfl hl.1 (As := [.int (zi (x)), .int (zi (y))]) (rest := []) rfl (Nat.le_of_ble_eq_true rfl) ⟨Nat.le_of_ble_eq_true rfl, Nat.le_of_ble_eq_true rfl⟩ dX3_time_54 ?_
        exact wr_iret hx hb hrt hlk dX3_time_57 hP hS (⟨by rw [timeV, if_pos (by omega)], _, _, _, rfl⟩)
      · refine z_sipush (pc := 30) hx hb dX3_time_30 (by decide) ?_
        exact wr_iret hx hb hrt hlk dX3_time_33 hP hS (⟨by rw [timeV, if_neg (by omega)], pcs, fr, lv, rfl⟩)

set_option maxHeartbeats 4000000 in
set_option maxRecDepth 100000 in
theorem c_X3_mean (D : va_G) (cI cJ : ClassId) (l : Launch) (ad : Nat → Nat) (n : Int) (st hr ca : Nat → Int) (pcs : Int) (fr lv : Nat → Int) (k : Int) (ts th sp hv : Nat → Int) (pr hc : Int) (hU : VU n st hr ca) (S : Int) (r_S : -2147483648 ≤ S ∧ S ≤ 2147483647) (b : Int) (r_b : -2147483648 ≤ b ∧ b ≤ 2147483647) (h : Int) (r_h : -2147483648 ≤ h ∧ h ≤ 2147483647) (w : Int) (r_w : -2147483648 ≤ w ∧ w ≤ 2147483647) : WR D cI cJ l yX3_mean cX3_mean 5 (some .long) 4 96 [.ref (ad 0), .int (zi (S)), .int (zi (b)), .int (zi (h)), .int (zi (w))] (wX ad cI cJ n st hr ca pcs fr lv k ts th sp hv pr hc) (fun v' ws' => v' = .long (zj (meanV n st hr ca S b h w)) ∧ ∃ (pcs' : Int) (fr' lv' : Nat → Int), ws' = (wX ad cI cJ n st hr ca pcs' fr' lv' k ts th sp hv pr hc)) := by
  refine WR.of (by decide) (Nat.le_of_ble_eq_true rfl) ?_
  intro p e s m args below meth c hx hb hrt hml hown hT hlk hK hP hD hS ls hl
  replace hl : lv_has ls 5 [(0, .ref (ad 0)), (1, .int (zi (S))), (2, .int (zi (b))), (3, .int (zi (h))), (4, .int (zi (w)))] := hl
  refine lv_iload_n (pc := 0) hx hb dX3_mean_0 rfl (lv_at hl 1 rfl) ?_
  refine lv_iload_n (pc := 1) hx hb dX3_mean_1 rfl (lv_at hl 2 rfl) ?_
  refine rd_S (pc := 2) hx hb hml hown hT hK (c_X3_isSetByCause D cI cJ l (S) (by omega) (b) (by omega)) ca_X3_isSetByCause tw_164 va_Pnil ⟨Nat.le_of_ble_eq_true rfl, Nat.le_of_ble_eq_true rfl⟩ rfl hl.1 (As := [.int (zi (S)), .int (zi (b))]) (rest := []) rfl (Nat.le_of_ble_eq_true rfl) ⟨Nat.le_of_ble_eq_true rfl, Nat.le_of_ble_eq_true rfl⟩ dX3_mean_2 ?_
  refine z_ifB_eq (tgt := 29) (pc := 5) hx hb dX3_mean_5 (by decide) (fun c_1 => ?_) (fun c_1 => ?_)
  · refine z_ldc2 (pc := 29) hx hb (-1002) hown (hT _ tw_167) (by decide) dX3_mean_29 ?_
    exact wr_lret hx hb hrt hlk dX3_mean_32 hP hS (⟨by rw [meanV, if_neg (by omega)], pcs, fr, lv, rfl⟩)
  · refine lv_iload_n (pc := 8) hx hb dX3_mean_8 rfl (lv_at hl 3 rfl) ?_
    refine z_iconst (pc := 9) hx hb dX3_mean_9 ?_
    refine z_sipush (pc := 10) hx hb dX3_mean_10 (by decide) ?_
    refine rd_S (pc := 13) hx hb hml hown hT hK (c_X3_isWithin D cI cJ l (h) (by omega) (1) (by omega) (500) (by omega)) ca_X3_isWithin tw_107 va_Pnil ⟨Nat.le_of_ble_eq_true rfl, Nat.le_of_ble_eq_true rfl⟩ rfl hl.1 (As := [.int (zi (h)), .int (zi (1)), .int (zi (500))]) (rest := []) rfl (Nat.le_of_ble_eq_true rfl) ⟨Nat.le_of_ble_eq_true rfl, Nat.le_of_ble_eq_true rfl⟩ dX3_mean_13 ?_
    refine z_ifB_eq (tgt := 29) (pc := 16) hx hb dX3_mean_16 (by decide) (fun c_2 => ?_) (fun c_2 => ?_)
    · refine z_ldc2 (pc := 29) hx hb (-1002) hown (hT _ tw_167) (by decide) dX3_mean_29 ?_
      exact wr_lret hx hb hrt hlk dX3_mean_32 hP hS (⟨by rw [meanV, if_neg (by omega)], pcs, fr, lv, rfl⟩)
    · refine lv_iload (pc := 19) hx hb dX3_mean_19 (lv_at hl 4 rfl) ?_
      refine z_iconst (pc := 21) hx hb dX3_mean_21 ?_
      refine z_iconst (pc := 22) hx hb dX3_mean_22 ?_
      refine rd_S (pc := 23) hx hb hml hown hT hK (c_X3_isWithin D cI cJ l (w) (by omega) (0) (by omega) (1) (by omega)) ca_X3_isWithin tw_107 va_Pnil ⟨Nat.le_of_ble_eq_true rfl, Nat.le_of_ble_eq_true rfl⟩ rfl hl.1 (As := [.int (zi (w)), .int (zi (0)), .int (zi (1))]) (rest := []) rfl (Nat.le_of_ble_eq_true rfl) ⟨Nat.le_of_ble_eq_true rfl, Nat.le_of_ble_eq_true rfl⟩ dX3_mean_23 ?_
      refine z_ifB_ne (tgt := 33) (pc := 26) hx hb dX3_mean_26 (by decide) (fun c_3 => ?_) (fun c_3 => ?_)
      · refine lv_aload_n (pc := 33) hx hb dX3_mean_33 rfl (lv_at hl 0 rfl) ?_
        refine va_get (D := D) (cl := vwCl) (ci := 3) (v := .ref (ad 2)) (C := RX3) (T := TX3) (N := 7) (pc := 34) hx hb hT inT3 hown hK.1 hP 0 rfl rfl 1 (by decide) (hT _ tw_76) (fun _ h9 => h9) rfl dX3_mean_34 ?_
        refine lv_aload_n (pc := 37) hx hb dX3_mean_37 rfl (lv_at hl 0 rfl) ?_
        refine va_get (D := D) (cl := vwCl) (ci := 3) (v := .ref (ad 1)) (C := RX3) (T := TX3) (N := 7) (pc := 38) hx hb hT inT3 hown hK.1 hP 0 rfl rfl 0 (by decide) (hT _ tw_75) (fun _ h9 => h9) rfl dX3_mean_38 ?_
        refine lv_iload_n (pc := 41) hx hb dX3_mean_41 rfl (lv_at hl 1 rfl) ?_
        refine lv_iload_n (pc := 42) hx hb dX3_mean_42 rfl (lv_at hl 2 rfl) ?_
        refine wv_V (pc := 43) hx hb hml hown hT hK (c_X0_look D cI cJ l ad n st hr ca pcs fr lv k ts th sp hv pr hc hU (S) (by omega) (b) (by omega)) ca_X0_look tw_168 hP hD hS (fun q h => inW_same (by rfl) h) 2 0 rfl rfl rfl ⟨Nat.le_of_ble_eq_true rfl, Nat.le_of_ble_eq_true rfl⟩ rfl hl.1 (As := [.ref (ad 1), .int (zi (S)), .int (zi (b))]) (rest := []) rfl (Nat.le_of_ble_eq_true rfl) ⟨Nat.le_of_ble_eq_true rfl, Nat.le_of_ble_eq_true rfl⟩ dX3_mean_43 (fun ws_ H locs hΦ hP hz_ hk_ hS => ?_)
        obtain ⟨i_4, φ_4, fr_4, lv_4, hE_4, rfl⟩ := hΦ
        replace hD : va_D (inW (wX ad cI cJ n st hr ca pcs fr lv k ts th sp hv pr hc)) (wX ad cI cJ n st hr ca (((i_4 : Int) + 1)) fr_4 lv_4 k ts th sp hv pr hc) := hD.same rfl
        refine lv_aload_n (pc := 46) hx hb dX3_mean_46 rfl (lv_at hl 0 rfl) ?_
        refine va_get (D := D) (cl := vwCl) (ci := 3) (v := .ref (ad 2)) (C := RX3) (T := TX3) (N := 7) (pc := 47) hx hb hT inT3 hown hK.1 hP 0 rfl rfl 1 (by decide) (hT _ tw_76) (fun _ h9 => h9) rfl dX3_mean_47 ?_
        refine z_iconst (pc := 50) hx hb dX3_mean_50 ?_
        refine lv_iload_n (pc := 51) hx hb dX3_mean_51 rfl (lv_at hl 3 rfl) ?_
        have hs := ST_of hU S b
        have hl1 := sum_rng hs (B := 0) (E := h.toNat) (by omega)
        have hl0 := lev_0 hs
        refine rd_V (pc := 52) hx hb hml hown hT hK (c_X0_sumOf D cI cJ l ad n st hr ca (((i_4 : Int) + 1)) fr_4 lv_4 k ts th sp hv pr hc (FF n st hr ca S b) (RR n st hr S) (ST_of hU _ _) i_4 φ_4 hE_4 rfl (0) (h) 0 h.toNat (by omega) (by omega) (by omega)) ca_X0_sumOf tw_216 hP 2 0 rfl rfl rfl ⟨Nat.le_of_ble_eq_true rfl, Nat.le_of_ble_eq_true rfl⟩ rfl hl.1 (As := [.int (zi (0)), .int (zi (h))]) (rest := []) rfl (Nat.le_of_ble_eq_true rfl) ⟨Nat.le_of_ble_eq_true rfl, Nat.le_of_ble_eq_true rfl⟩ dX3_mean_52 ?_
        refine lv_aload_n (pc := 55) hx hb dX3_mean_55 rfl (lv_at hl 0 rfl) ?_
        refine va_get (D := D) (cl := vwCl) (ci := 3) (v := .ref (ad 2)) (C := RX3) (T := TX3) (N := 7) (pc := 56) hx hb hT inT3 hown hK.1 hP 0 rfl rfl 1 (by decide) (hT _ tw_76) (fun _ h9 => h9) rfl dX3_mean_56 ?_
        refine rd_V (pc := 59) hx hb hml hown hT hK (c_X0_whole D cI cJ l ad n st hr ca (((i_4 : Int) + 1)) fr_4 lv_4 k ts th sp hv pr hc (FF n st hr ca S b) (RR n st hr S) (ST_of hU _ _) i_4 φ_4 hE_4 rfl) ca_X0_whole tw_193 hP 2 0 rfl rfl rfl ⟨Nat.le_of_ble_eq_true rfl, Nat.le_of_ble_eq_true rfl⟩ rfl hl.1 (As := []) (rest := [.long (zj ((sumL (lev (FF n st hr ca S b) (RR n st hr S)) 0 (h.toNat - 0) : Int)))]) rfl (Nat.le_of_ble_eq_true rfl) ⟨Nat.le_of_ble_eq_true rfl, Nat.le_of_ble_eq_true rfl⟩ dX3_mean_59 ?_
        refine lv_iload (pc := 62) hx hb dX3_mean_62 (lv_at hl 4 rfl) ?_
        refine rd_S (pc := 64) hx hb hml hown hT hK (c_X3_leastTerms D cI cJ l ((sumL (lev (FF n st hr ca S b) (RR n st hr S)) 0 (h.toNat - 0) : Int)) ((lev (FF n st hr ca S b) (RR n st hr S) 0 : Int)) (w) (sumL (lev (FF n st hr ca S b) (RR n st hr S)) 0 (h.toNat - 0)) (lev (FF n st hr ca S b) (RR n st hr S) 0) (by omega) (by omega) (by omega) (by omega)) ca_X3_leastTerms tw_197 va_Pnil ⟨Nat.le_of_ble_eq_true rfl, Nat.le_of_ble_eq_true rfl⟩ rfl hl.1 (As := [.long (zj ((sumL (lev (FF n st hr ca S b) (RR n st hr S)) 0 (h.toNat - 0) : Int))), .long (zj ((lev (FF n st hr ca S b) (RR n st hr S) 0 : Int))), .int (zi (w))]) (rest := []) rfl (Nat.le_of_ble_eq_true rfl) ⟨Nat.le_of_ble_eq_true rfl, Nat.le_of_ble_eq_true rfl⟩ dX3_mean_64 ?_
        exact wr_lret hx hb hrt hlk dX3_mean_67 hP hS (⟨congrArg (fun z => Value.long (zj z)) (if_pos (show okS S b ∧ (1 ≤ h ∧ h ≤ 500) ∧ (0 ≤ w ∧ w ≤ 1) by omega)).symm, _, _, _, rfl⟩)
      · refine z_ldc2 (pc := 29) hx hb (-1002) hown (hT _ tw_167) (by decide) dX3_mean_29 ?_
        exact wr_lret hx hb hrt hlk dX3_mean_32 hP hS (⟨by rw [meanV, if_neg (by omega)], pcs, fr, lv, rfl⟩)

set_option maxHeartbeats 4000000 in
set_option maxRecDepth 100000 in
theorem c_X3_rest (D : va_G) (cI cJ : ClassId) (l : Launch) (ad : Nat → Nat) (n : Int) (st hr ca : Nat → Int) (pcs : Int) (fr lv : Nat → Int) (k : Int) (ts th sp hv : Nat → Int) (pr hc : Int) (hU : VU n st hr ca) (S : Int) (r_S : -2147483648 ≤ S ∧ S ≤ 2147483647) (b : Int) (r_b : -2147483648 ≤ b ∧ b ≤ 2147483647) (x : Int) (r_x : -2147483648 ≤ x ∧ x ≤ 2147483647) (h : Int) (r_h : -2147483648 ≤ h ∧ h ≤ 2147483647) (w : Int) (r_w : -2147483648 ≤ w ∧ w ≤ 2147483647) : WR D cI cJ l yX3_rest cX3_rest 6 (some .long) 4 96 [.ref (ad 0), .int (zi (S)), .int (zi (b)), .int (zi (x)), .int (zi (h)), .int (zi (w))] (wX ad cI cJ n st hr ca pcs fr lv k ts th sp hv pr hc) (fun v' ws' => v' = .long (zj (restV n st hr ca S b x h w)) ∧ ∃ (pcs' : Int) (fr' lv' : Nat → Int), ws' = (wX ad cI cJ n st hr ca pcs' fr' lv' k ts th sp hv pr hc)) := by
  refine WR.of (by decide) (Nat.le_of_ble_eq_true rfl) ?_
  intro p e s m args below meth c hx hb hrt hml hown hT hlk hK hP hD hS ls hl
  replace hl : lv_has ls 6 [(0, .ref (ad 0)), (1, .int (zi (S))), (2, .int (zi (b))), (3, .int (zi (x))), (4, .int (zi (h))), (5, .int (zi (w)))] := hl
  refine lv_iload_n (pc := 0) hx hb dX3_rest_0 rfl (lv_at hl 1 rfl) ?_
  refine lv_iload_n (pc := 1) hx hb dX3_rest_1 rfl (lv_at hl 2 rfl) ?_
  refine rd_S (pc := 2) hx hb hml hown hT hK (c_X3_isSetByCause D cI cJ l (S) (by omega) (b) (by omega)) ca_X3_isSetByCause tw_164 va_Pnil ⟨Nat.le_of_ble_eq_true rfl, Nat.le_of_ble_eq_true rfl⟩ rfl hl.1 (As := [.int (zi (S)), .int (zi (b))]) (rest := []) rfl (Nat.le_of_ble_eq_true rfl) ⟨Nat.le_of_ble_eq_true rfl, Nat.le_of_ble_eq_true rfl⟩ dX3_rest_2 ?_
  refine z_ifB_eq (tgt := 42) (pc := 5) hx hb dX3_rest_5 (by decide) (fun c_1 => ?_) (fun c_1 => ?_)
  · refine z_ldc2 (pc := 42) hx hb (-1002) hown (hT _ tw_167) (by decide) dX3_rest_42 ?_
    exact wr_lret hx hb hrt hlk dX3_rest_45 hP hS (⟨by rw [restV, if_neg (by omega)], pcs, fr, lv, rfl⟩)
  · refine lv_iload (pc := 8) hx hb dX3_rest_8 (lv_at hl 4 rfl) ?_
    refine z_iconst (pc := 10) hx hb dX3_rest_10 ?_
    refine z_sipush (pc := 11) hx hb dX3_rest_11 (by decide) ?_
    refine rd_S (pc := 14) hx hb hml hown hT hK (c_X3_isWithin D cI cJ l (h) (by omega) (1) (by omega) (500) (by omega)) ca_X3_isWithin tw_107 va_Pnil ⟨Nat.le_of_ble_eq_true rfl, Nat.le_of_ble_eq_true rfl⟩ rfl hl.1 (As := [.int (zi (h)), .int (zi (1)), .int (zi (500))]) (rest := []) rfl (Nat.le_of_ble_eq_true rfl) ⟨Nat.le_of_ble_eq_true rfl, Nat.le_of_ble_eq_true rfl⟩ dX3_rest_14 ?_
    refine z_ifB_eq (tgt := 42) (pc := 17) hx hb dX3_rest_17 (by decide) (fun c_2 => ?_) (fun c_2 => ?_)
    · refine z_ldc2 (pc := 42) hx hb (-1002) hown (hT _ tw_167) (by decide) dX3_rest_42 ?_
      exact wr_lret hx hb hrt hlk dX3_rest_45 hP hS (⟨by rw [restV, if_neg (by omega)], pcs, fr, lv, rfl⟩)
    · refine lv_iload_n (pc := 20) hx hb dX3_rest_20 rfl (lv_at hl 3 rfl) ?_
      refine z_iconst (pc := 21) hx hb dX3_rest_21 ?_
      refine lv_iload (pc := 22) hx hb dX3_rest_22 (lv_at hl 4 rfl) ?_
      refine z_iconst (pc := 24) hx hb dX3_rest_24 ?_
      refine z_isub (pc := 25) hx hb dX3_rest_25 ?_
      refine rd_S (pc := 26) hx hb hml hown hT hK (c_X3_isWithin D cI cJ l (x) (by omega) (0) (by omega) ((h - 1)) (by omega)) ca_X3_isWithin tw_107 va_Pnil ⟨Nat.le_of_ble_eq_true rfl, Nat.le_of_ble_eq_true rfl⟩ rfl hl.1 (As := [.int (zi (x)), .int (zi (0)), .int (zi ((h - 1)))]) (rest := []) rfl (Nat.le_of_ble_eq_true rfl) ⟨Nat.le_of_ble_eq_true rfl, Nat.le_of_ble_eq_true rfl⟩ dX3_rest_26 ?_
      refine z_ifB_eq (tgt := 42) (pc := 29) hx hb dX3_rest_29 (by decide) (fun c_3 => ?_) (fun c_3 => ?_)
      · refine z_ldc2 (pc := 42) hx hb (-1002) hown (hT _ tw_167) (by decide) dX3_rest_42 ?_
        exact wr_lret hx hb hrt hlk dX3_rest_45 hP hS (⟨by rw [restV, if_neg (by omega)], pcs, fr, lv, rfl⟩)
      · refine lv_iload (pc := 32) hx hb dX3_rest_32 (lv_at hl 5 rfl) ?_
        refine z_iconst (pc := 34) hx hb dX3_rest_34 ?_
        refine z_iconst (pc := 35) hx hb dX3_rest_35 ?_
        refine rd_S (pc := 36) hx hb hml hown hT hK (c_X3_isWithin D cI cJ l (w) (by omega) (0) (by omega) (1) (by omega)) ca_X3_isWithin tw_107 va_Pnil ⟨Nat.le_of_ble_eq_true rfl, Nat.le_of_ble_eq_true rfl⟩ rfl hl.1 (As := [.int (zi (w)), .int (zi (0)), .int (zi (1))]) (rest := []) rfl (Nat.le_of_ble_eq_true rfl) ⟨Nat.le_of_ble_eq_true rfl, Nat.le_of_ble_eq_true rfl⟩ dX3_rest_36 ?_
        refine z_ifB_ne (tgt := 46) (pc := 39) hx hb dX3_rest_39 (by decide) (fun c_4 => ?_) (fun c_4 => ?_)
        · refine lv_aload_n (pc := 46) hx hb dX3_rest_46 rfl (lv_at hl 0 rfl) ?_
          refine va_get (D := D) (cl := vwCl) (ci := 3) (v := .ref (ad 2)) (C := RX3) (T := TX3) (N := 7) (pc := 47) hx hb hT inT3 hown hK.1 hP 0 rfl rfl 1 (by decide) (hT _ tw_76) (fun _ h9 => h9) rfl dX3_rest_47 ?_
          refine lv_aload_n (pc := 50) hx hb dX3_rest_50 rfl (lv_at hl 0 rfl) ?_
          refine va_get (D := D) (cl := vwCl) (ci := 3) (v := .ref (ad 1)) (C := RX3) (T := TX3) (N := 7) (pc := 51) hx hb hT inT3 hown hK.1 hP 0 rfl rfl 0 (by decide) (hT _ tw_75) (fun _ h9 => h9) rfl dX3_rest_51 ?_
          refine lv_iload_n (pc := 54) hx hb dX3_rest_54 rfl (lv_at hl 1 rfl) ?_
          refine lv_iload_n (pc := 55) hx hb dX3_rest_55 rfl (lv_at hl 2 rfl) ?_
          refine wv_V (pc := 56) hx hb hml hown hT hK (c_X0_look D cI cJ l ad n st hr ca pcs fr lv k ts th sp hv pr hc hU (S) (by omega) (b) (by omega)) ca_X0_look tw_168 hP hD hS (fun q h => inW_same (by rfl) h) 2 0 rfl rfl rfl ⟨Nat.le_of_ble_eq_true rfl, Nat.le_of_ble_eq_true rfl⟩ rfl hl.1 (As := [.ref (ad 1), .int (zi (S)), .int (zi (b))]) (rest := []) rfl (Nat.le_of_ble_eq_true rfl) ⟨Nat.le_of_ble_eq_true rfl, Nat.le_of_ble_eq_true rfl⟩ dX3_rest_56 (fun ws_ H locs hΦ hP hz_ hk_ hS => ?_)
          obtain ⟨i_5, φ_5, fr_5, lv_5, hE_5, rfl⟩ := hΦ
          replace hD : va_D (inW (wX ad cI cJ n st hr ca pcs fr lv k ts th sp hv pr hc)) (wX ad cI cJ n st hr ca (((i_5 : Int) + 1)) fr_5 lv_5 k ts th sp hv pr hc) := hD.same rfl
          refine lv_aload_n (pc := 59) hx hb dX3_rest_59 rfl (lv_at hl 0 rfl) ?_
          refine va_get (D := D) (cl := vwCl) (ci := 3) (v := .ref (ad 2)) (C := RX3) (T := TX3) (N := 7) (pc := 60) hx hb hT inT3 hown hK.1 hP 0 rfl rfl 1 (by decide) (hT _ tw_76) (fun _ h9 => h9) rfl dX3_rest_60 ?_
          refine lv_iload_n (pc := 63) hx hb dX3_rest_63 rfl (lv_at hl 3 rfl) ?_
          have hs := ST_of hU S b
          have hl1 := sum_rng hs (B := x.toNat) (E := h.toNat) (by omega)
          have hl0 := lev_rng hs (t := x.toNat) (by omega)
          refine rd_V (pc := 64) hx hb hml hown hT hK (c_X0_levelAt D cI cJ l ad n st hr ca (((i_5 : Int) + 1)) fr_5 lv_5 k ts th sp hv pr hc (FF n st hr ca S b) (RR n st hr S) (ST_of hU _ _) i_5 φ_5 hE_5 rfl (x) x.toNat (by omega) (by omega)) ca_X0_levelAt tw_189 hP 2 0 rfl rfl rfl ⟨Nat.le_of_ble_eq_true rfl, Nat.le_of_ble_eq_true rfl⟩ rfl hl.1 (As := [.int (zi (x))]) (rest := []) rfl (Nat.le_of_ble_eq_true rfl) ⟨Nat.le_of_ble_eq_true rfl, Nat.le_of_ble_eq_true rfl⟩ dX3_rest_64 ?_
          refine z_lconst0 (pc := 67) hx hb dX3_rest_67 ?_
          refine z_lcmp_ne (tgt := 76) (pc := 68) hx hb dX3_rest_68 dX3_rest_69 (by decide) (by omega) (by omega) (fun c_6 => ?_) (fun c_6 => ?_)
          · refine lv_aload_n (pc := 76) hx hb dX3_rest_76 rfl (lv_at hl 0 rfl) ?_
            refine va_get (D := D) (cl := vwCl) (ci := 3) (v := .ref (ad 2)) (C := RX3) (T := TX3) (N := 7) (pc := 77) hx hb hT inT3 hown hK.1 hP 0 rfl rfl 1 (by decide) (hT _ tw_76) (fun _ h9 => h9) rfl dX3_rest_77 ?_
            refine lv_iload_n (pc := 80) hx hb dX3_rest_80 rfl (lv_at hl 3 rfl) ?_
            refine lv_iload (pc := 81) hx hb dX3_rest_81 (lv_at hl 4 rfl) ?_
            refine rd_V (pc := 83) hx hb hml hown hT hK (c_X0_sumOf D cI cJ l ad n st hr ca (((i_5 : Int) + 1)) fr_5 lv_5 k ts th sp hv pr hc (FF n st hr ca S b) (RR n st hr S) (ST_of hU _ _) i_5 φ_5 hE_5 rfl (x) (h) x.toNat h.toNat (by omega) (by omega) (by omega)) ca_X0_sumOf tw_216 hP 2 0 rfl rfl rfl ⟨Nat.le_of_ble_eq_true rfl, Nat.le_of_ble_eq_true rfl⟩ rfl hl.1 (As := [.int (zi (x)), .int (zi (h))]) (rest := []) rfl (Nat.le_of_ble_eq_true rfl) ⟨Nat.le_of_ble_eq_true rfl, Nat.le_of_ble_eq_true rfl⟩ dX3_rest_83 ?_
            refine lv_aload_n (pc := 86) hx hb dX3_rest_86 rfl (lv_at hl 0 rfl) ?_
            refine va_get (D := D) (cl := vwCl) (ci := 3) (v := .ref (ad 2)) (C := RX3) (T := TX3) (N := 7) (pc := 87) hx hb hT inT3 hown hK.1 hP 0 rfl rfl 1 (by decide) (hT _ tw_76) (fun _ h9 => h9) rfl dX3_rest_87 ?_
            refine lv_iload_n (pc := 90) hx hb dX3_rest_90 rfl (lv_at hl 3 rfl) ?_
            refine rd_V (pc := 91) hx hb hml hown hT hK (c_X0_levelAt D cI cJ l ad n st hr ca (((i_5 : Int) + 1)) fr_5 lv_5 k ts th sp hv pr hc (FF n st hr ca S b) (RR n st hr S) (ST_of hU _ _) i_5 φ_5 hE_5 rfl (x) x.toNat (by omega) (by omega)) ca_X0_levelAt tw_189 hP 2 0 rfl rfl rfl ⟨Nat.le_of_ble_eq_true rfl, Nat.le_of_ble_eq_true rfl⟩ rfl hl.1 (As := [.int (zi (x))]) (rest := [.long (zj ((sumL (lev (FF n st hr ca S b) (RR n st hr S)) x.toNat (h.toNat - x.toNat) : Int)))]) rfl (Nat.le_of_ble_eq_true rfl) ⟨Nat.le_of_ble_eq_true rfl, Nat.le_of_ble_eq_true rfl⟩ dX3_rest_91 ?_
            refine lv_iload (pc := 94) hx hb dX3_rest_94 (lv_at hl 5 rfl) ?_
            refine rd_S (pc := 96) hx hb hml hown hT hK (c_X3_leastTerms D cI cJ l ((sumL (lev (FF n st hr ca S b) (RR n st hr S)) x.toNat (h.toNat - x.toNat) : Int)) ((lev (FF n st hr ca S b) (RR n st hr S) x.toNat : Int)) (w) (sumL (lev (FF n st hr ca S b) (RR n st hr S)) x.toNat (h.toNat - x.toNat)) (lev (FF n st hr ca S b) (RR n st hr S) x.toNat) (by omega) (by omega) (by omega) (by omega)) ca_X3_leastTerms tw_197 va_Pnil ⟨Nat.le_of_ble_eq_true rfl, Nat.le_of_ble_eq_true rfl⟩ rfl hl.1 (As := [.long (zj ((sumL (lev (FF n st hr ca S b) (RR n st hr S)) x.toNat (h.toNat - x.toNat) : Int))), .long (zj ((lev (FF n st hr ca S b) (RR n st hr S) x.toNat : Int))), .int (zi (w))]) (rest := []) rfl (Nat.le_of_ble_eq_true rfl) ⟨Nat.le_of_ble_eq_true rfl, Nat.le_of_ble_eq_true rfl⟩ dX3_rest_96 ?_
            exact wr_lret hx hb hrt hlk dX3_rest_99 hP hS (⟨congrArg (fun z => Value.long (zj z)) ((if_pos (show okS S b ∧ (1 ≤ h ∧ h ≤ 500) ∧ (0 ≤ x ∧ x ≤ h - 1) ∧ (0 ≤ w ∧ w ≤ 1) by omega)).trans (if_neg (show ¬ lev (FF n st hr ca S b) (RR n st hr S) x.toNat = 0 by omega))).symm, _, _, _, rfl⟩)
          · refine z_ldc2 (pc := 72) hx hb (-1003) hown (hT _ tw_230) (by decide) dX3_rest_72 ?_
            exact wr_lret hx hb hrt hlk dX3_rest_75 hP hS (⟨by rw [restV, if_pos (by omega), if_pos (by omega)], _, _, _, rfl⟩)
        · refine z_ldc2 (pc := 42) hx hb (-1002) hown (hT _ tw_167) (by decide) dX3_rest_42 ?_
          exact wr_lret hx hb hrt hlk dX3_rest_45 hP hS (⟨by rw [restV, if_neg (by omega)], pcs, fr, lv, rfl⟩)

set_option maxHeartbeats 4000000 in
set_option maxRecDepth 100000 in
theorem c_X3_runIn (D : va_G) (cI cJ : ClassId) (l : Launch) (ad : Nat → Nat) (n : Int) (st hr ca : Nat → Int) (pcs : Int) (fr lv : Nat → Int) (k : Int) (ts th sp hv : Nat → Int) (pr hc : Int) (hU : VU n st hr ca) (S : Int) (r_S : -2147483648 ≤ S ∧ S ≤ 2147483647) (b : Int) (r_b : -2147483648 ≤ b ∧ b ≤ 2147483647) (h : Int) (r_h : -2147483648 ≤ h ∧ h ≤ 2147483647) (q : Int) (r_q : -2147483648 ≤ q ∧ q ≤ 2147483647) : WR D cI cJ l yX3_runIn cX3_runIn 5 (some .int) 4 96 [.ref (ad 0), .int (zi (S)), .int (zi (b)), .int (zi (h)), .int (zi (q))] (wX ad cI cJ n st hr ca pcs fr lv k ts th sp hv pr hc) (fun v' ws' => v' = .int (zi (runInV n st hr ca S b h q)) ∧ ∃ (pcs' : Int) (fr' lv' : Nat → Int), ws' = (wX ad cI cJ n st hr ca pcs' fr' lv' k ts th sp hv pr hc)) := by
  refine WR.of (by decide) (Nat.le_of_ble_eq_true rfl) ?_
  intro p e s m args below meth c hx hb hrt hml hown hT hlk hK hP hD hS ls hl
  replace hl : lv_has ls 5 [(0, .ref (ad 0)), (1, .int (zi (S))), (2, .int (zi (b))), (3, .int (zi (h))), (4, .int (zi (q)))] := hl
  refine lv_iload_n (pc := 0) hx hb dX3_runIn_0 rfl (lv_at hl 1 rfl) ?_
  refine lv_iload_n (pc := 1) hx hb dX3_runIn_1 rfl (lv_at hl 2 rfl) ?_
  refine rd_S (pc := 2) hx hb hml hown hT hK (c_X3_isSetByCause D cI cJ l (S) (by omega) (b) (by omega)) ca_X3_isSetByCause tw_164 va_Pnil ⟨Nat.le_of_ble_eq_true rfl, Nat.le_of_ble_eq_true rfl⟩ rfl hl.1 (As := [.int (zi (S)), .int (zi (b))]) (rest := []) rfl (Nat.le_of_ble_eq_true rfl) ⟨Nat.le_of_ble_eq_true rfl, Nat.le_of_ble_eq_true rfl⟩ dX3_runIn_2 ?_
  refine z_ifB_eq (tgt := 30) (pc := 5) hx hb dX3_runIn_5 (by decide) (fun c_1 => ?_) (fun c_1 => ?_)
  · refine z_sipush (pc := 30) hx hb dX3_runIn_30 (by decide) ?_
    exact wr_iret hx hb hrt hlk dX3_runIn_33 hP hS (⟨by rw [runInV, if_neg (by omega)], pcs, fr, lv, rfl⟩)
  · refine lv_iload_n (pc := 8) hx hb dX3_runIn_8 rfl (lv_at hl 3 rfl) ?_
    refine z_iconst (pc := 9) hx hb dX3_runIn_9 ?_
    refine z_sipush (pc := 10) hx hb dX3_runIn_10 (by decide) ?_
    refine rd_S (pc := 13) hx hb hml hown hT hK (c_X3_isWithin D cI cJ l (h) (by omega) (1) (by omega) (500) (by omega)) ca_X3_isWithin tw_107 va_Pnil ⟨Nat.le_of_ble_eq_true rfl, Nat.le_of_ble_eq_true rfl⟩ rfl hl.1 (As := [.int (zi (h)), .int (zi (1)), .int (zi (500))]) (rest := []) rfl (Nat.le_of_ble_eq_true rfl) ⟨Nat.le_of_ble_eq_true rfl, Nat.le_of_ble_eq_true rfl⟩ dX3_runIn_13 ?_
    refine z_ifB_eq (tgt := 30) (pc := 16) hx hb dX3_runIn_16 (by decide) (fun c_2 => ?_) (fun c_2 => ?_)
    · refine z_sipush (pc := 30) hx hb dX3_runIn_30 (by decide) ?_
      exact wr_iret hx hb hrt hlk dX3_runIn_33 hP hS (⟨by rw [runInV, if_neg (by omega)], pcs, fr, lv, rfl⟩)
    · refine lv_iload (pc := 19) hx hb dX3_runIn_19 (lv_at hl 4 rfl) ?_
      refine z_iconst (pc := 21) hx hb dX3_runIn_21 ?_
      refine z_bipush (pc := 22) hx hb dX3_runIn_22 (by decide) ?_
      refine rd_S (pc := 24) hx hb hml hown hT hK (c_X3_isWithin D cI cJ l (q) (by omega) (0) (by omega) (100) (by omega)) ca_X3_isWithin tw_107 va_Pnil ⟨Nat.le_of_ble_eq_true rfl, Nat.le_of_ble_eq_true rfl⟩ rfl hl.1 (As := [.int (zi (q)), .int (zi (0)), .int (zi (100))]) (rest := []) rfl (Nat.le_of_ble_eq_true rfl) ⟨Nat.le_of_ble_eq_true rfl, Nat.le_of_ble_eq_true rfl⟩ dX3_runIn_24 ?_
      refine z_ifB_ne (tgt := 34) (pc := 27) hx hb dX3_runIn_27 (by decide) (fun c_3 => ?_) (fun c_3 => ?_)
      · refine lv_aload_n (pc := 34) hx hb dX3_runIn_34 rfl (lv_at hl 0 rfl) ?_
        refine va_get (D := D) (cl := vwCl) (ci := 3) (v := .ref (ad 2)) (C := RX3) (T := TX3) (N := 7) (pc := 35) hx hb hT inT3 hown hK.1 hP 0 rfl rfl 1 (by decide) (hT _ tw_76) (fun _ h9 => h9) rfl dX3_runIn_35 ?_
        refine lv_aload_n (pc := 38) hx hb dX3_runIn_38 rfl (lv_at hl 0 rfl) ?_
        refine va_get (D := D) (cl := vwCl) (ci := 3) (v := .ref (ad 1)) (C := RX3) (T := TX3) (N := 7) (pc := 39) hx hb hT inT3 hown hK.1 hP 0 rfl rfl 0 (by decide) (hT _ tw_75) (fun _ h9 => h9) rfl dX3_runIn_39 ?_
        refine lv_iload_n (pc := 42) hx hb dX3_runIn_42 rfl (lv_at hl 1 rfl) ?_
        refine lv_iload_n (pc := 43) hx hb dX3_runIn_43 rfl (lv_at hl 2 rfl) ?_
        refine wv_V (pc := 44) hx hb hml hown hT hK (c_X0_look D cI cJ l ad n st hr ca pcs fr lv k ts th sp hv pr hc hU (S) (by omega) (b) (by omega)) ca_X0_look tw_168 hP hD hS (fun q h => inW_same (by rfl) h) 2 0 rfl rfl rfl ⟨Nat.le_of_ble_eq_true rfl, Nat.le_of_ble_eq_true rfl⟩ rfl hl.1 (As := [.ref (ad 1), .int (zi (S)), .int (zi (b))]) (rest := []) rfl (Nat.le_of_ble_eq_true rfl) ⟨Nat.le_of_ble_eq_true rfl, Nat.le_of_ble_eq_true rfl⟩ dX3_runIn_44 (fun ws_ H locs hΦ hP hz_ hk_ hS => ?_)
        obtain ⟨i_4, φ_4, fr_4, lv_4, hE_4, rfl⟩ := hΦ
        replace hD : va_D (inW (wX ad cI cJ n st hr ca pcs fr lv k ts th sp hv pr hc)) (wX ad cI cJ n st hr ca (((i_4 : Int) + 1)) fr_4 lv_4 k ts th sp hv pr hc) := hD.same rfl
        refine lv_aload_n (pc := 47) hx hb dX3_runIn_47 rfl (lv_at hl 0 rfl) ?_
        refine va_get (D := D) (cl := vwCl) (ci := 3) (v := .ref (ad 2)) (C := RX3) (T := TX3) (N := 7) (pc := 48) hx hb hT inT3 hown hK.1 hP 0 rfl rfl 1 (by decide) (hT _ tw_76) (fun _ h9 => h9) rfl dX3_runIn_48 ?_
        refine lv_iload_n (pc := 51) hx hb dX3_runIn_51 rfl (lv_at hl 3 rfl) ?_
        refine lv_iload (pc := 52) hx hb dX3_runIn_52 (lv_at hl 4 rfl) ?_
        refine rd_V (pc := 54) hx hb hml hown hT hK (c_X0_bestRunIn D cI cJ l ad n st hr ca (((i_4 : Int) + 1)) fr_4 lv_4 k ts th sp hv pr hc (FF n st hr ca S b) (RR n st hr S) (ST_of hU _ _) i_4 φ_4 hE_4 rfl (h) (q) h.toNat (by omega) (by omega) (by omega)) ca_X0_bestRunIn tw_235 hP 2 0 rfl rfl rfl ⟨Nat.le_of_ble_eq_true rfl, Nat.le_of_ble_eq_true rfl⟩ rfl hl.1 (As := [.int (zi (h)), .int (zi (q))]) (rest := []) rfl (Nat.le_of_ble_eq_true rfl) ⟨Nat.le_of_ble_eq_true rfl, Nat.le_of_ble_eq_true rfl⟩ dX3_runIn_54 ?_
        exact wr_iret hx hb hrt hlk dX3_runIn_57 hP hS (⟨by rw [runInV, if_pos (by omega)], _, _, _, rfl⟩)
      · refine z_sipush (pc := 30) hx hb dX3_runIn_30 (by decide) ?_
        exact wr_iret hx hb hrt hlk dX3_runIn_33 hP hS (⟨by rw [runInV, if_neg (by omega)], pcs, fr, lv, rfl⟩)
