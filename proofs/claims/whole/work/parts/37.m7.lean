set_option maxHeartbeats 4000000 in
set_option maxRecDepth 100000 in
theorem c_X4_left (D : va_G) (cI cJ : ClassId) (l : Launch) (ad : Nat → Nat) (n : Int) (st hr ca sp : Nat → Int) (k : Int) (ts th : Nat → Int) (pr hc lu ll up lo : Int) (fr rr hv : Nat → Int) (hU : VU n st hr ca) (S : Int) (r_S : -2147483648 ≤ S ∧ S ≤ 2147483647) (b : Int) (r_b : -2147483648 ≤ b ∧ b ≤ 2147483647) (t : Int) (r_t : -2147483648 ≤ t ∧ t ≤ 2147483647) (w : Int) (r_w : -2147483648 ≤ w ∧ w ≤ 2147483647) : WR D cI cJ l yX4_left cX4_left 5 (some .long) 3 76 [.ref (ad 0), .int (zi (S)), .int (zi (b)), .int (zi (t)), .int (zi (w))] (wM ad cI n st hr ca sp k ts th pr hc lu ll up lo fr rr hv) (fun v' ws' => v' = .long (zj (leftV n st hr ca S b t w)) ∧ ∃ (lu' ll' up' lo' : Int) (fr' rr' : Nat → Int), ws' = (wM ad cI n st hr ca sp k ts th pr hc lu' ll' up' lo' fr' rr' hv)) := by
  refine WR.of (by decide) (Nat.le_of_ble_eq_true rfl) ?_
  intro p e s m args below meth c hx hb hrt hml hown hT hlk hK hP hD hS ls hl
  replace hl : lv_has ls 5 [(0, .ref (ad 0)), (1, .int (zi (S))), (2, .int (zi (b))), (3, .int (zi (t))), (4, .int (zi (w)))] := hl
  refine lv_iload_n (pc := 0) hx hb dX4_left_0 rfl (lv_at hl 1 rfl) ?_
  refine rd_S (pc := 1) hx hb hml hown hT hK (c_X4_isSet D cI cJ l (S) (by omega)) ca_X4_isSet tw_433 va_Pnil ⟨Nat.le_of_ble_eq_true rfl, Nat.le_of_ble_eq_true rfl⟩ rfl hl.1 (As := [.int (zi (S))]) (rest := []) rfl (Nat.le_of_ble_eq_true rfl) ⟨Nat.le_of_ble_eq_true rfl, Nat.le_of_ble_eq_true rfl⟩ dX4_left_1 ?_
  refine z_ifB_eq (tgt := 37) (pc := 4) hx hb dX4_left_4 (by decide) (fun c_1 => ?_) (fun c_1 => ?_)
  · refine z_ldc2 (pc := 37) hx hb (-1002) hown (hT _ tw_454) (by decide) dX4_left_37 ?_
    exact wr_lret hx hb hrt hlk dX4_left_40 hP hS (⟨by rw [leftV, if_neg (by omega)], lu, ll, up, lo, fr, rr, rfl⟩)
  · refine lv_iload_n (pc := 7) hx hb dX4_left_7 rfl (lv_at hl 2 rfl) ?_
    refine rd_S (pc := 8) hx hb hml hown hT hK (c_X4_isCause D cI cJ l (b) (by omega)) ca_X4_isCause tw_404 va_Pnil ⟨Nat.le_of_ble_eq_true rfl, Nat.le_of_ble_eq_true rfl⟩ rfl hl.1 (As := [.int (zi (b))]) (rest := []) rfl (Nat.le_of_ble_eq_true rfl) ⟨Nat.le_of_ble_eq_true rfl, Nat.le_of_ble_eq_true rfl⟩ dX4_left_8 ?_
    refine z_ifB_eq (tgt := 37) (pc := 11) hx hb dX4_left_11 (by decide) (fun c_2 => ?_) (fun c_2 => ?_)
    · refine z_ldc2 (pc := 37) hx hb (-1002) hown (hT _ tw_454) (by decide) dX4_left_37 ?_
      exact wr_lret hx hb hrt hlk dX4_left_40 hP hS (⟨by rw [leftV, if_neg (by omega)], lu, ll, up, lo, fr, rr, rfl⟩)
    · refine lv_iload_n (pc := 14) hx hb dX4_left_14 rfl (lv_at hl 3 rfl) ?_
      refine z_i2l (pc := 15) hx hb (by omega) dX4_left_15 ?_
      refine z_lconst0 (pc := 16) hx hb dX4_left_16 ?_
      refine z_ldc2 (pc := 17) hx hb (500) hown (hT _ tw_403) (by decide) dX4_left_17 ?_
      refine rd_S (pc := 20) hx hb hml hown hT hK (c_X4_in D cI cJ l (t) (by omega) (0) (by omega) (500) (by omega)) ca_X4_in tw_400 va_Pnil ⟨Nat.le_of_ble_eq_true rfl, Nat.le_of_ble_eq_true rfl⟩ rfl hl.1 (As := [.long (zj (t)), .long (zj (0)), .long (zj (500))]) (rest := []) rfl (Nat.le_of_ble_eq_true rfl) ⟨Nat.le_of_ble_eq_true rfl, Nat.le_of_ble_eq_true rfl⟩ dX4_left_20 ?_
      refine z_ifB_eq (tgt := 37) (pc := 23) hx hb dX4_left_23 (by decide) (fun c_3 => ?_) (fun c_3 => ?_)
      · refine z_ldc2 (pc := 37) hx hb (-1002) hown (hT _ tw_454) (by decide) dX4_left_37 ?_
        exact wr_lret hx hb hrt hlk dX4_left_40 hP hS (⟨by rw [leftV, if_neg (by omega)], lu, ll, up, lo, fr, rr, rfl⟩)
      · refine lv_iload (pc := 26) hx hb dX4_left_26 (lv_at hl 4 rfl) ?_
        refine z_i2l (pc := 28) hx hb (by omega) dX4_left_28 ?_
        refine z_lconst0 (pc := 29) hx hb dX4_left_29 ?_
        refine z_lconst1 (pc := 30) hx hb dX4_left_30 ?_
        refine rd_S (pc := 31) hx hb hml hown hT hK (c_X4_in D cI cJ l (w) (by omega) (0) (by omega) (1) (by omega)) ca_X4_in tw_400 va_Pnil ⟨Nat.le_of_ble_eq_true rfl, Nat.le_of_ble_eq_true rfl⟩ rfl hl.1 (As := [.long (zj (w)), .long (zj (0)), .long (zj (1))]) (rest := []) rfl (Nat.le_of_ble_eq_true rfl) ⟨Nat.le_of_ble_eq_true rfl, Nat.le_of_ble_eq_true rfl⟩ dX4_left_31 ?_
        refine z_ifB_ne (tgt := 41) (pc := 34) hx hb dX4_left_34 (by decide) (fun c_4 => ?_) (fun c_4 => ?_)
        · refine lv_aload_n (pc := 41) hx hb dX4_left_41 rfl (lv_at hl 0 rfl) ?_
          refine lv_iload_n (pc := 42) hx hb dX4_left_42 rfl (lv_at hl 1 rfl) ?_
          refine lv_iload_n (pc := 43) hx hb dX4_left_43 rfl (lv_at hl 2 rfl) ?_
          refine wv_V (pc := 44) hx hb hml hown hT hK (c_X4_lay D cI cJ l ad n st hr ca sp k ts th pr hc lu ll up lo fr rr hv hU (S) (by omega) (b) (by omega)) ca_X4_lay tw_455 hP hD hS (fun q h => inW_same (by rfl) h) 0 4 rfl rfl rfl ⟨Nat.le_of_ble_eq_true rfl, Nat.le_of_ble_eq_true rfl⟩ rfl hl.1 (As := [.int (zi (S)), .int (zi (b))]) (rest := []) rfl (Nat.le_of_ble_eq_true rfl) ⟨Nat.le_of_ble_eq_true rfl, Nat.le_of_ble_eq_true rfl⟩ dX4_left_44 (fun ws_ H locs hΦ hP hz_ hk_ hS => ?_)
          obtain ⟨fr_5, rr_5, hRW_5, rfl⟩ := hΦ
          replace hD : va_D (inW (wM ad cI n st hr ca sp k ts th pr hc lu ll up lo fr rr hv)) (wM ad cI n st hr ca sp k ts th pr hc lu ll up lo fr_5 rr_5 hv) := hD.same rfl
          refine lv_aload_n (pc := 47) hx hb dX4_left_47 rfl (lv_at hl 0 rfl) ?_
          refine lv_iload_n (pc := 48) hx hb dX4_left_48 rfl (lv_at hl 3 rfl) ?_
          refine wv_V (pc := 49) hx hb hml hown hT hK (c_X4_findLeft D cI cJ l ad n st hr ca sp k ts th pr hc lu ll up lo fr_5 rr_5 hv (FF n st hr ca S b) (RR n st hr S) (ST_of hU S b) hRW_5 (t) t.toNat (by omega) (by omega)) ca_X4_findLeft tw_463 hP hD hS (fun q h => inW_same (by rfl) h) 0 4 rfl rfl rfl ⟨Nat.le_of_ble_eq_true rfl, Nat.le_of_ble_eq_true rfl⟩ rfl hl.1 (As := [.int (zi (t))]) (rest := []) rfl (Nat.le_of_ble_eq_true rfl) ⟨Nat.le_of_ble_eq_true rfl, Nat.le_of_ble_eq_true rfl⟩ dX4_left_49 (fun ws_ H locs hΦ hP hz_ hk_ hS => ?_)
          subst hΦ
          replace hP : va_P D vwCl (wM ad cI n st hr ca sp k ts th pr hc ((rdU (lev (FF n st hr ca S b) (RR n st hr S) t.toNat) (lev (FF n st hr ca S b) (RR n st hr S) 0) : Int)) ((rdL (lev (FF n st hr ca S b) (RR n st hr S) t.toNat) (lev (FF n st hr ca S b) (RR n st hr S) 0) : Int)) up lo fr_5 rr_5 hv) H := hP
          replace hD : va_D (inW (wM ad cI n st hr ca sp k ts th pr hc lu ll up lo fr rr hv)) (wM ad cI n st hr ca sp k ts th pr hc ((rdU (lev (FF n st hr ca S b) (RR n st hr S) t.toNat) (lev (FF n st hr ca S b) (RR n st hr S) 0) : Int)) ((rdL (lev (FF n st hr ca S b) (RR n st hr S) t.toNat) (lev (FF n st hr ca S b) (RR n st hr S) 0) : Int)) up lo fr_5 rr_5 hv) := hD.same rfl
          refine lv_iload (pc := 52) hx hb dX4_left_52 (lv_at hl 4 rfl) ?_
          refine z_if_ne (tgt := 64) (pc := 54) hx hb dX4_left_54 (by decide) (by omega) (fun c_6 => ?_) (fun c_6 => ?_)
          · refine lv_aload_n (pc := 64) hx hb dX4_left_64 rfl (lv_at hl 0 rfl) ?_
            refine va_get (D := D) (cl := vwCl) (ci := 4) (v := .long (zj ((rdL (lev (FF n st hr ca S b) (RR n st hr S) t.toNat) (lev (FF n st hr ca S b) (RR n st hr S) 0) : Int)))) (C := RX4) (T := TX4) (N := 17) (pc := 65) hx hb hT inT4 hown hK.1 hP 0 rfl rfl 11 (by decide) (hT _ tw_348) (fun _ h9 => h9) rfl dX4_left_65 ?_
            exact wr_lret hx hb hrt hlk dX4_left_68 hP hS (⟨by rw [leftV, if_pos (by omega), if_neg (by omega)], _, _, _, _, _, _, rfl⟩)
          · refine lv_aload_n (pc := 57) hx hb dX4_left_57 rfl (lv_at hl 0 rfl) ?_
            refine va_get (D := D) (cl := vwCl) (ci := 4) (v := .long (zj ((rdU (lev (FF n st hr ca S b) (RR n st hr S) t.toNat) (lev (FF n st hr ca S b) (RR n st hr S) 0) : Int)))) (C := RX4) (T := TX4) (N := 17) (pc := 58) hx hb hT inT4 hown hK.1 hP 0 rfl rfl 10 (by decide) (hT _ tw_347) (fun _ h9 => h9) rfl dX4_left_58 ?_
            refine lv_goto (tgt := 68) (pc := 61) hx hb dX4_left_61 (by decide) ?_
            exact wr_lret hx hb hrt hlk dX4_left_68 hP hS (⟨by rw [leftV, if_pos (by omega), if_pos (by omega)], _, _, _, _, _, _, rfl⟩)
        · refine z_ldc2 (pc := 37) hx hb (-1002) hown (hT _ tw_454) (by decide) dX4_left_37 ?_
          exact wr_lret hx hb hrt hlk dX4_left_40 hP hS (⟨by rw [leftV, if_neg (by omega)], lu, ll, up, lo, fr, rr, rfl⟩)

set_option maxHeartbeats 4000000 in
set_option maxRecDepth 100000 in
theorem c_X4_mean (D : va_G) (cI cJ : ClassId) (l : Launch) (ad : Nat → Nat) (n : Int) (st hr ca sp : Nat → Int) (k : Int) (ts th : Nat → Int) (pr hc lu ll up lo : Int) (fr rr hv : Nat → Int) (hU : VU n st hr ca) (S : Int) (r_S : -2147483648 ≤ S ∧ S ≤ 2147483647) (b : Int) (r_b : -2147483648 ≤ b ∧ b ≤ 2147483647) (h : Int) (r_h : -2147483648 ≤ h ∧ h ≤ 2147483647) (w : Int) (r_w : -2147483648 ≤ w ∧ w ≤ 2147483647) : WR D cI cJ l yX4_mean cX4_mean 5 (some .long) 3 77 [.ref (ad 0), .int (zi (S)), .int (zi (b)), .int (zi (h)), .int (zi (w))] (wM ad cI n st hr ca sp k ts th pr hc lu ll up lo fr rr hv) (fun v' ws' => v' = .long (zj (meanV n st hr ca S b h w)) ∧ ∃ (lu' ll' up' lo' : Int) (fr' rr' : Nat → Int), ws' = (wM ad cI n st hr ca sp k ts th pr hc lu' ll' up' lo' fr' rr' hv)) := by
  refine WR.of (by decide) (Nat.le_of_ble_eq_true rfl) ?_
  intro p e s m args below meth c hx hb hrt hml hown hT hlk hK hP hD hS ls hl
  replace hl : lv_has ls 5 [(0, .ref (ad 0)), (1, .int (zi (S))), (2, .int (zi (b))), (3, .int (zi (h))), (4, .int (zi (w)))] := hl
  refine lv_iload_n (pc := 0) hx hb dX4_mean_0 rfl (lv_at hl 1 rfl) ?_
  refine rd_S (pc := 1) hx hb hml hown hT hK (c_X4_isSet D cI cJ l (S) (by omega)) ca_X4_isSet tw_433 va_Pnil ⟨Nat.le_of_ble_eq_true rfl, Nat.le_of_ble_eq_true rfl⟩ rfl hl.1 (As := [.int (zi (S))]) (rest := []) rfl (Nat.le_of_ble_eq_true rfl) ⟨Nat.le_of_ble_eq_true rfl, Nat.le_of_ble_eq_true rfl⟩ dX4_mean_1 ?_
  refine z_ifB_eq (tgt := 37) (pc := 4) hx hb dX4_mean_4 (by decide) (fun c_1 => ?_) (fun c_1 => ?_)
  · refine z_ldc2 (pc := 37) hx hb (-1002) hown (hT _ tw_454) (by decide) dX4_mean_37 ?_
    exact wr_lret hx hb hrt hlk dX4_mean_40 hP hS (⟨by rw [meanV, if_neg (by omega)], lu, ll, up, lo, fr, rr, rfl⟩)
  · refine lv_iload_n (pc := 7) hx hb dX4_mean_7 rfl (lv_at hl 2 rfl) ?_
    refine rd_S (pc := 8) hx hb hml hown hT hK (c_X4_isCause D cI cJ l (b) (by omega)) ca_X4_isCause tw_404 va_Pnil ⟨Nat.le_of_ble_eq_true rfl, Nat.le_of_ble_eq_true rfl⟩ rfl hl.1 (As := [.int (zi (b))]) (rest := []) rfl (Nat.le_of_ble_eq_true rfl) ⟨Nat.le_of_ble_eq_true rfl, Nat.le_of_ble_eq_true rfl⟩ dX4_mean_8 ?_
    refine z_ifB_eq (tgt := 37) (pc := 11) hx hb dX4_mean_11 (by decide) (fun c_2 => ?_) (fun c_2 => ?_)
    · refine z_ldc2 (pc := 37) hx hb (-1002) hown (hT _ tw_454) (by decide) dX4_mean_37 ?_
      exact wr_lret hx hb hrt hlk dX4_mean_40 hP hS (⟨by rw [meanV, if_neg (by omega)], lu, ll, up, lo, fr, rr, rfl⟩)
    · refine lv_iload_n (pc := 14) hx hb dX4_mean_14 rfl (lv_at hl 3 rfl) ?_
      refine z_i2l (pc := 15) hx hb (by omega) dX4_mean_15 ?_
      refine z_lconst1 (pc := 16) hx hb dX4_mean_16 ?_
      refine z_ldc2 (pc := 17) hx hb (500) hown (hT _ tw_403) (by decide) dX4_mean_17 ?_
      refine rd_S (pc := 20) hx hb hml hown hT hK (c_X4_in D cI cJ l (h) (by omega) (1) (by omega) (500) (by omega)) ca_X4_in tw_400 va_Pnil ⟨Nat.le_of_ble_eq_true rfl, Nat.le_of_ble_eq_true rfl⟩ rfl hl.1 (As := [.long (zj (h)), .long (zj (1)), .long (zj (500))]) (rest := []) rfl (Nat.le_of_ble_eq_true rfl) ⟨Nat.le_of_ble_eq_true rfl, Nat.le_of_ble_eq_true rfl⟩ dX4_mean_20 ?_
      refine z_ifB_eq (tgt := 37) (pc := 23) hx hb dX4_mean_23 (by decide) (fun c_3 => ?_) (fun c_3 => ?_)
      · refine z_ldc2 (pc := 37) hx hb (-1002) hown (hT _ tw_454) (by decide) dX4_mean_37 ?_
        exact wr_lret hx hb hrt hlk dX4_mean_40 hP hS (⟨by rw [meanV, if_neg (by omega)], lu, ll, up, lo, fr, rr, rfl⟩)
      · refine lv_iload (pc := 26) hx hb dX4_mean_26 (lv_at hl 4 rfl) ?_
        refine z_i2l (pc := 28) hx hb (by omega) dX4_mean_28 ?_
        refine z_lconst0 (pc := 29) hx hb dX4_mean_29 ?_
        refine z_lconst1 (pc := 30) hx hb dX4_mean_30 ?_
        refine rd_S (pc := 31) hx hb hml hown hT hK (c_X4_in D cI cJ l (w) (by omega) (0) (by omega) (1) (by omega)) ca_X4_in tw_400 va_Pnil ⟨Nat.le_of_ble_eq_true rfl, Nat.le_of_ble_eq_true rfl⟩ rfl hl.1 (As := [.long (zj (w)), .long (zj (0)), .long (zj (1))]) (rest := []) rfl (Nat.le_of_ble_eq_true rfl) ⟨Nat.le_of_ble_eq_true rfl, Nat.le_of_ble_eq_true rfl⟩ dX4_mean_31 ?_
        refine z_ifB_ne (tgt := 41) (pc := 34) hx hb dX4_mean_34 (by decide) (fun c_4 => ?_) (fun c_4 => ?_)
        · refine lv_aload_n (pc := 41) hx hb dX4_mean_41 rfl (lv_at hl 0 rfl) ?_
          refine lv_iload_n (pc := 42) hx hb dX4_mean_42 rfl (lv_at hl 1 rfl) ?_
          refine lv_iload_n (pc := 43) hx hb dX4_mean_43 rfl (lv_at hl 2 rfl) ?_
          refine wv_V (pc := 44) hx hb hml hown hT hK (c_X4_lay D cI cJ l ad n st hr ca sp k ts th pr hc lu ll up lo fr rr hv hU (S) (by omega) (b) (by omega)) ca_X4_lay tw_455 hP hD hS (fun q h => inW_same (by rfl) h) 0 4 rfl rfl rfl ⟨Nat.le_of_ble_eq_true rfl, Nat.le_of_ble_eq_true rfl⟩ rfl hl.1 (As := [.int (zi (S)), .int (zi (b))]) (rest := []) rfl (Nat.le_of_ble_eq_true rfl) ⟨Nat.le_of_ble_eq_true rfl, Nat.le_of_ble_eq_true rfl⟩ dX4_mean_44 (fun ws_ H locs hΦ hP hz_ hk_ hS => ?_)
          obtain ⟨fr_5, rr_5, hRW_5, rfl⟩ := hΦ
          replace hD : va_D (inW (wM ad cI n st hr ca sp k ts th pr hc lu ll up lo fr rr hv)) (wM ad cI n st hr ca sp k ts th pr hc lu ll up lo fr_5 rr_5 hv) := hD.same rfl
          refine lv_aload_n (pc := 47) hx hb dX4_mean_47 rfl (lv_at hl 0 rfl) ?_
          refine z_iconst (pc := 48) hx hb dX4_mean_48 ?_
          refine lv_iload_n (pc := 49) hx hb dX4_mean_49 rfl (lv_at hl 3 rfl) ?_
          refine wv_V (pc := 50) hx hb hml hown hT hK (c_X4_findRest D cI cJ l ad n st hr ca sp k ts th pr hc lu ll up lo fr_5 rr_5 hv (FF n st hr ca S b) (RR n st hr S) (ST_of hU S b) hRW_5 (0) (h) 0 h.toNat (by omega) (by omega) (lev_0 (ST_of hU S b)).1 (by omega)) ca_X4_findRest tw_487 hP hD hS (fun q h => inW_same (by rfl) h) 0 4 rfl rfl rfl ⟨Nat.le_of_ble_eq_true rfl, Nat.le_of_ble_eq_true rfl⟩ rfl hl.1 (As := [.int (zi (0)), .int (zi (h))]) (rest := []) rfl (Nat.le_of_ble_eq_true rfl) ⟨Nat.le_of_ble_eq_true rfl, Nat.le_of_ble_eq_true rfl⟩ dX4_mean_50 (fun ws_ H locs hΦ hP hz_ hk_ hS => ?_)
          obtain ⟨lu_6, ll_6, rfl⟩ := hΦ
          replace hD : va_D (inW (wM ad cI n st hr ca sp k ts th pr hc lu ll up lo fr rr hv)) (wM ad cI n st hr ca sp k ts th pr hc lu_6 ll_6 ((rdU (sumL (lev (FF n st hr ca S b) (RR n st hr S)) 0 (h.toNat - 0)) (lev (FF n st hr ca S b) (RR n st hr S) 0) : Int)) ((rdL (sumL (lev (FF n st hr ca S b) (RR n st hr S)) 0 (h.toNat - 0)) (lev (FF n st hr ca S b) (RR n st hr S) 0) : Int)) fr_5 rr_5 hv) := hD.same rfl
          refine lv_iload (pc := 53) hx hb dX4_mean_53 (lv_at hl 4 rfl) ?_
          refine z_if_ne (tgt := 65) (pc := 55) hx hb dX4_mean_55 (by decide) (by omega) (fun c_7 => ?_) (fun c_7 => ?_)
          · refine lv_aload_n (pc := 65) hx hb dX4_mean_65 rfl (lv_at hl 0 rfl) ?_
            refine va_get (D := D) (cl := vwCl) (ci := 4) (v := .long (zj ((rdL (sumL (lev (FF n st hr ca S b) (RR n st hr S)) 0 (h.toNat - 0)) (lev (FF n st hr ca S b) (RR n st hr S) 0) : Int)))) (C := RX4) (T := TX4) (N := 17) (pc := 66) hx hb hT inT4 hown hK.1 hP 0 rfl rfl 13 (by decide) (hT _ tw_350) (fun _ h9 => h9) rfl dX4_mean_66 ?_
            exact wr_lret hx hb hrt hlk dX4_mean_69 hP hS (⟨by rw [meanV, if_pos (by omega), if_neg (by omega)], _, _, _, _, _, _, rfl⟩)
          · refine lv_aload_n (pc := 58) hx hb dX4_mean_58 rfl (lv_at hl 0 rfl) ?_
            refine va_get (D := D) (cl := vwCl) (ci := 4) (v := .long (zj ((rdU (sumL (lev (FF n st hr ca S b) (RR n st hr S)) 0 (h.toNat - 0)) (lev (FF n st hr ca S b) (RR n st hr S) 0) : Int)))) (C := RX4) (T := TX4) (N := 17) (pc := 59) hx hb hT inT4 hown hK.1 hP 0 rfl rfl 12 (by decide) (hT _ tw_349) (fun _ h9 => h9) rfl dX4_mean_59 ?_
            refine lv_goto (tgt := 69) (pc := 62) hx hb dX4_mean_62 (by decide) ?_
            exact wr_lret hx hb hrt hlk dX4_mean_69 hP hS (⟨by rw [meanV, if_pos (by omega), if_pos (by omega)], _, _, _, _, _, _, rfl⟩)
        · refine z_ldc2 (pc := 37) hx hb (-1002) hown (hT _ tw_454) (by decide) dX4_mean_37 ?_
          exact wr_lret hx hb hrt hlk dX4_mean_40 hP hS (⟨by rw [meanV, if_neg (by omega)], lu, ll, up, lo, fr, rr, rfl⟩)

set_option maxHeartbeats 4000000 in
set_option maxRecDepth 100000 in
theorem c_X4_rest (D : va_G) (cI cJ : ClassId) (l : Launch) (ad : Nat → Nat) (n : Int) (st hr ca sp : Nat → Int) (k : Int) (ts th : Nat → Int) (pr hc lu ll up lo : Int) (fr rr hv : Nat → Int) (hU : VU n st hr ca) (S : Int) (r_S : -2147483648 ≤ S ∧ S ≤ 2147483647) (b : Int) (r_b : -2147483648 ≤ b ∧ b ≤ 2147483647) (x : Int) (r_x : -2147483648 ≤ x ∧ x ≤ 2147483647) (h : Int) (r_h : -2147483648 ≤ h ∧ h ≤ 2147483647) (w : Int) (r_w : -2147483648 ≤ w ∧ w ≤ 2147483647) : WR D cI cJ l yX4_rest cX4_rest 6 (some .long) 4 97 [.ref (ad 0), .int (zi (S)), .int (zi (b)), .int (zi (x)), .int (zi (h)), .int (zi (w))] (wM ad cI n st hr ca sp k ts th pr hc lu ll up lo fr rr hv) (fun v' ws' => v' = .long (zj (restV n st hr ca S b x h w)) ∧ ∃ (lu' ll' up' lo' : Int) (fr' rr' : Nat → Int), ws' = (wM ad cI n st hr ca sp k ts th pr hc lu' ll' up' lo' fr' rr' hv)) := by
  refine WR.of (by decide) (Nat.le_of_ble_eq_true rfl) ?_
  intro p e s m args below meth c hx hb hrt hml hown hT hlk hK hP hD hS ls hl
  replace hl : lv_has ls 6 [(0, .ref (ad 0)), (1, .int (zi (S))), (2, .int (zi (b))), (3, .int (zi (x))), (4, .int (zi (h))), (5, .int (zi (w)))] := hl
  refine lv_iload_n (pc := 0) hx hb dX4_rest_0 rfl (lv_at hl 1 rfl) ?_
  refine rd_S (pc := 1) hx hb hml hown hT hK (c_X4_isSet D cI cJ l (S) (by omega)) ca_X4_isSet tw_433 va_Pnil ⟨Nat.le_of_ble_eq_true rfl, Nat.le_of_ble_eq_true rfl⟩ rfl hl.1 (As := [.int (zi (S))]) (rest := []) rfl (Nat.le_of_ble_eq_true rfl) ⟨Nat.le_of_ble_eq_true rfl, Nat.le_of_ble_eq_true rfl⟩ dX4_rest_1 ?_
  refine z_ifB_eq (tgt := 52) (pc := 4) hx hb dX4_rest_4 (by decide) (fun c_1 => ?_) (fun c_1 => ?_)
  · refine z_ldc2 (pc := 52) hx hb (-1002) hown (hT _ tw_454) (by decide) dX4_rest_52 ?_
    exact wr_lret hx hb hrt hlk dX4_rest_55 hP hS (⟨by rw [restV, if_neg (by omega)], lu, ll, up, lo, fr, rr, rfl⟩)
  · refine lv_iload_n (pc := 7) hx hb dX4_rest_7 rfl (lv_at hl 2 rfl) ?_
    refine rd_S (pc := 8) hx hb hml hown hT hK (c_X4_isCause D cI cJ l (b) (by omega)) ca_X4_isCause tw_404 va_Pnil ⟨Nat.le_of_ble_eq_true rfl, Nat.le_of_ble_eq_true rfl⟩ rfl hl.1 (As := [.int (zi (b))]) (rest := []) rfl (Nat.le_of_ble_eq_true rfl) ⟨Nat.le_of_ble_eq_true rfl, Nat.le_of_ble_eq_true rfl⟩ dX4_rest_8 ?_
    refine z_ifB_eq (tgt := 52) (pc := 11) hx hb dX4_rest_11 (by decide) (fun c_2 => ?_) (fun c_2 => ?_)
    · refine z_ldc2 (pc := 52) hx hb (-1002) hown (hT _ tw_454) (by decide) dX4_rest_52 ?_
      exact wr_lret hx hb hrt hlk dX4_rest_55 hP hS (⟨by rw [restV, if_neg (by omega)], lu, ll, up, lo, fr, rr, rfl⟩)
    · refine lv_iload (pc := 14) hx hb dX4_rest_14 (lv_at hl 4 rfl) ?_
      refine z_i2l (pc := 16) hx hb (by omega) dX4_rest_16 ?_
      refine z_lconst1 (pc := 17) hx hb dX4_rest_17 ?_
      refine z_ldc2 (pc := 18) hx hb (500) hown (hT _ tw_403) (by decide) dX4_rest_18 ?_
      refine rd_S (pc := 21) hx hb hml hown hT hK (c_X4_in D cI cJ l (h) (by omega) (1) (by omega) (500) (by omega)) ca_X4_in tw_400 va_Pnil ⟨Nat.le_of_ble_eq_true rfl, Nat.le_of_ble_eq_true rfl⟩ rfl hl.1 (As := [.long (zj (h)), .long (zj (1)), .long (zj (500))]) (rest := []) rfl (Nat.le_of_ble_eq_true rfl) ⟨Nat.le_of_ble_eq_true rfl, Nat.le_of_ble_eq_true rfl⟩ dX4_rest_21 ?_
      refine z_ifB_eq (tgt := 52) (pc := 24) hx hb dX4_rest_24 (by decide) (fun c_3 => ?_) (fun c_3 => ?_)
      · refine z_ldc2 (pc := 52) hx hb (-1002) hown (hT _ tw_454) (by decide) dX4_rest_52 ?_
        exact wr_lret hx hb hrt hlk dX4_rest_55 hP hS (⟨by rw [restV, if_neg (by omega)], lu, ll, up, lo, fr, rr, rfl⟩)
      · refine lv_iload_n (pc := 27) hx hb dX4_rest_27 rfl (lv_at hl 3 rfl) ?_
        refine z_i2l (pc := 28) hx hb (by omega) dX4_rest_28 ?_
        refine z_lconst0 (pc := 29) hx hb dX4_rest_29 ?_
        refine lv_iload (pc := 30) hx hb dX4_rest_30 (lv_at hl 4 rfl) ?_
        refine z_iconst (pc := 32) hx hb dX4_rest_32 ?_
        refine z_isub (pc := 33) hx hb dX4_rest_33 ?_
        refine z_i2l (pc := 34) hx hb (by omega) dX4_rest_34 ?_
        refine rd_S (pc := 35) hx hb hml hown hT hK (c_X4_in D cI cJ l (x) (by omega) (0) (by omega) ((h - 1)) (by omega)) ca_X4_in tw_400 va_Pnil ⟨Nat.le_of_ble_eq_true rfl, Nat.le_of_ble_eq_true rfl⟩ rfl hl.1 (As := [.long (zj (x)), .long (zj (0)), .long (zj ((h - 1)))]) (rest := []) rfl (Nat.le_of_ble_eq_true rfl) ⟨Nat.le_of_ble_eq_true rfl, Nat.le_of_ble_eq_true rfl⟩ dX4_rest_35 ?_
        refine z_ifB_eq (tgt := 52) (pc := 38) hx hb dX4_rest_38 (by decide) (fun c_4 => ?_) (fun c_4 => ?_)
        · refine z_ldc2 (pc := 52) hx hb (-1002) hown (hT _ tw_454) (by decide) dX4_rest_52 ?_
          exact wr_lret hx hb hrt hlk dX4_rest_55 hP hS (⟨by rw [restV, if_neg (by omega)], lu, ll, up, lo, fr, rr, rfl⟩)
        · refine lv_iload (pc := 41) hx hb dX4_rest_41 (lv_at hl 5 rfl) ?_
          refine z_i2l (pc := 43) hx hb (by omega) dX4_rest_43 ?_
          refine z_lconst0 (pc := 44) hx hb dX4_rest_44 ?_
          refine z_lconst1 (pc := 45) hx hb dX4_rest_45 ?_
          refine rd_S (pc := 46) hx hb hml hown hT hK (c_X4_in D cI cJ l (w) (by omega) (0) (by omega) (1) (by omega)) ca_X4_in tw_400 va_Pnil ⟨Nat.le_of_ble_eq_true rfl, Nat.le_of_ble_eq_true rfl⟩ rfl hl.1 (As := [.long (zj (w)), .long (zj (0)), .long (zj (1))]) (rest := []) rfl (Nat.le_of_ble_eq_true rfl) ⟨Nat.le_of_ble_eq_true rfl, Nat.le_of_ble_eq_true rfl⟩ dX4_rest_46 ?_
          refine z_ifB_ne (tgt := 56) (pc := 49) hx hb dX4_rest_49 (by decide) (fun c_5 => ?_) (fun c_5 => ?_)
          · refine lv_aload_n (pc := 56) hx hb dX4_rest_56 rfl (lv_at hl 0 rfl) ?_
            refine lv_iload_n (pc := 57) hx hb dX4_rest_57 rfl (lv_at hl 1 rfl) ?_
            refine lv_iload_n (pc := 58) hx hb dX4_rest_58 rfl (lv_at hl 2 rfl) ?_
            refine wv_V (pc := 59) hx hb hml hown hT hK (c_X4_lay D cI cJ l ad n st hr ca sp k ts th pr hc lu ll up lo fr rr hv hU (S) (by omega) (b) (by omega)) ca_X4_lay tw_455 hP hD hS (fun q h => inW_same (by rfl) h) 0 4 rfl rfl rfl ⟨Nat.le_of_ble_eq_true rfl, Nat.le_of_ble_eq_true rfl⟩ rfl hl.1 (As := [.int (zi (S)), .int (zi (b))]) (rest := []) rfl (Nat.le_of_ble_eq_true rfl) ⟨Nat.le_of_ble_eq_true rfl, Nat.le_of_ble_eq_true rfl⟩ dX4_rest_59 (fun ws_ H locs hΦ hP hz_ hk_ hS => ?_)
            obtain ⟨fr_6, rr_6, hRW_6, rfl⟩ := hΦ
            replace hD : va_D (inW (wM ad cI n st hr ca sp k ts th pr hc lu ll up lo fr rr hv)) (wM ad cI n st hr ca sp k ts th pr hc lu ll up lo fr_6 rr_6 hv) := hD.same rfl
            refine lv_aload_n (pc := 62) hx hb dX4_rest_62 rfl (lv_at hl 0 rfl) ?_
            refine lv_iload_n (pc := 63) hx hb dX4_rest_63 rfl (lv_at hl 3 rfl) ?_
            refine wr_V (pc := 64) hx hb hml hown hT hK (c_X4_isLeftAt D cI cJ l ad n st hr ca sp k ts th pr hc lu ll up lo fr_6 rr_6 hv (FF n st hr ca S b) (RR n st hr S) (ST_of hU S b) hRW_6 (x) x.toNat (by omega) (by omega)) ca_X4_isLeftAt tw_499 hP hD hS (fun q h => inW_same (by rfl) h) 0 4 rfl rfl rfl ⟨Nat.le_of_ble_eq_true rfl, Nat.le_of_ble_eq_true rfl⟩ rfl hl.1 (As := [.int (zi (x))]) (rest := []) rfl (Nat.le_of_ble_eq_true rfl) ⟨Nat.le_of_ble_eq_true rfl, Nat.le_of_ble_eq_true rfl⟩ dX4_rest_64 (fun v_ ws_ H locs hΦ hP hz_ hk_ hS => ?_)
            obtain ⟨rfl, lu_7, ll_7, rfl⟩ := hΦ
            replace hD : va_D (inW (wM ad cI n st hr ca sp k ts th pr hc lu ll up lo fr rr hv)) (wM ad cI n st hr ca sp k ts th pr hc lu_7 ll_7 up lo fr_6 rr_6 hv) := hD.same rfl
            refine z_ifB_ne (tgt := 74) (pc := 67) hx hb dX4_rest_67 (by decide) (fun c_8 => ?_) (fun c_8 => ?_)
            · refine lv_aload_n (pc := 74) hx hb dX4_rest_74 rfl (lv_at hl 0 rfl) ?_
              refine lv_iload_n (pc := 75) hx hb dX4_rest_75 rfl (lv_at hl 3 rfl) ?_
              refine lv_iload (pc := 76) hx hb dX4_rest_76 (lv_at hl 4 rfl) ?_
              refine wv_V (pc := 78) hx hb hml hown hT hK (c_X4_findRest D cI cJ l ad n st hr ca sp k ts th pr hc lu_7 ll_7 up lo fr_6 rr_6 hv (FF n st hr ca S b) (RR n st hr S) (ST_of hU S b) hRW_6 (x) (h) x.toNat h.toNat (by omega) (by omega) (by assumption) (by omega)) ca_X4_findRest tw_487 hP hD hS (fun q h => inW_same (by rfl) h) 0 4 rfl rfl rfl ⟨Nat.le_of_ble_eq_true rfl, Nat.le_of_ble_eq_true rfl⟩ rfl hl.1 (As := [.int (zi (x)), .int (zi (h))]) (rest := []) rfl (Nat.le_of_ble_eq_true rfl) ⟨Nat.le_of_ble_eq_true rfl, Nat.le_of_ble_eq_true rfl⟩ dX4_rest_78 (fun ws_ H locs hΦ hP hz_ hk_ hS => ?_)
              obtain ⟨lu_9, ll_9, rfl⟩ := hΦ
              replace hD : va_D (inW (wM ad cI n st hr ca sp k ts th pr hc lu ll up lo fr rr hv)) (wM ad cI n st hr ca sp k ts th pr hc lu_9 ll_9 ((rdU (sumL (lev (FF n st hr ca S b) (RR n st hr S)) x.toNat (h.toNat - x.toNat)) (lev (FF n st hr ca S b) (RR n st hr S) x.toNat) : Int)) ((rdL (sumL (lev (FF n st hr ca S b) (RR n st hr S)) x.toNat (h.toNat - x.toNat)) (lev (FF n st hr ca S b) (RR n st hr S) x.toNat) : Int)) fr_6 rr_6 hv) := hD.same rfl
              refine lv_iload (pc := 81) hx hb dX4_rest_81 (lv_at hl 5 rfl) ?_
              refine z_if_ne (tgt := 93) (pc := 83) hx hb dX4_rest_83 (by decide) (by omega) (fun c_10 => ?_) (fun c_10 => ?_)
              · refine lv_aload_n (pc := 93) hx hb dX4_rest_93 rfl (lv_at hl 0 rfl) ?_
                refine va_get (D := D) (cl := vwCl) (ci := 4) (v := .long (zj ((rdL (sumL (lev (FF n st hr ca S b) (RR n st hr S)) x.toNat (h.toNat - x.toNat)) (lev (FF n st hr ca S b) (RR n st hr S) x.toNat) : Int)))) (C := RX4) (T := TX4) (N := 17) (pc := 94) hx hb hT inT4 hown hK.1 hP 0 rfl rfl 13 (by decide) (hT _ tw_350) (fun _ h9 => h9) rfl dX4_rest_94 ?_
                exact wr_lret hx hb hrt hlk dX4_rest_97 hP hS (⟨by rw [restV, if_pos (by omega), if_neg (by omega), if_neg (by omega)], _, _, _, _, _, _, rfl⟩)
              · refine lv_aload_n (pc := 86) hx hb dX4_rest_86 rfl (lv_at hl 0 rfl) ?_
                refine va_get (D := D) (cl := vwCl) (ci := 4) (v := .long (zj ((rdU (sumL (lev (FF n st hr ca S b) (RR n st hr S)) x.toNat (h.toNat - x.toNat)) (lev (FF n st hr ca S b) (RR n st hr S) x.toNat) : Int)))) (C := RX4) (T := TX4) (N := 17) (pc := 87) hx hb hT inT4 hown hK.1 hP 0 rfl rfl 12 (by decide) (hT _ tw_349) (fun _ h9 => h9) rfl dX4_rest_87 ?_
                refine lv_goto (tgt := 97) (pc := 90) hx hb dX4_rest_90 (by decide) ?_
                exact wr_lret hx hb hrt hlk dX4_rest_97 hP hS (⟨by rw [restV, if_pos (by omega), if_neg (by omega), if_pos (by omega)], _, _, _, _, _, _, rfl⟩)
            · refine z_ldc2 (pc := 70) hx hb (-1003) hown (hT _ tw_503) (by decide) dX4_rest_70 ?_
              exact wr_lret hx hb hrt hlk dX4_rest_73 hP hS (⟨by rw [restV, if_pos (by omega), if_pos (by omega)], _, _, _, _, _, _, rfl⟩)
          · refine z_ldc2 (pc := 52) hx hb (-1002) hown (hT _ tw_454) (by decide) dX4_rest_52 ?_
            exact wr_lret hx hb hrt hlk dX4_rest_55 hP hS (⟨by rw [restV, if_neg (by omega)], lu, ll, up, lo, fr, rr, rfl⟩)

set_option maxHeartbeats 4000000 in
set_option maxRecDepth 100000 in
theorem c_X4_timeOf (D : va_G) (cI cJ : ClassId) (l : Launch) (ad : Nat → Nat) (n : Int) (st hr ca sp : Nat → Int) (k : Int) (ts th : Nat → Int) (pr hc lu ll up lo : Int) (fr rr hv : Nat → Int) (hU : VU n st hr ca) (S : Int) (hS0 : 0 ≤ S ∧ S ≤ 15) (b : Int) (r_b : -1 ≤ b ∧ b ≤ 2) (x y : Int) (hxy : 0 ≤ x ∧ x ≤ 1000 ∧ 1 ≤ y ∧ y ≤ 1000) : WR D cI cJ l yX4_timeOf cX4_timeOf 6 (some .int) 3 71 [.ref (ad 0), .int (zi (S)), .int (zi (b)), .int (zi (x)), .int (zi (y))] (wM ad cI n st hr ca sp k ts th pr hc lu ll up lo fr rr hv) (fun v' ws' => v' = .int (zi (timeF (tmT (FF n st hr ca S b) (RR n st hr S) x y) 501)) ∧ ∃ (lu' ll' up' lo' : Int) (fr' rr' : Nat → Int), ws' = (wM ad cI n st hr ca sp k ts th pr hc lu' ll' up' lo' fr' rr' hv)) := by
  refine WR.of (by decide) (Nat.le_of_ble_eq_true rfl) ?_
  intro p e s m args below meth c hx hb hrt hml hown hT hlk hK hP hD hS ls hl
  replace hl : lv_has ls 6 [(0, .ref (ad 0)), (1, .int (zi (S))), (2, .int (zi (b))), (3, .int (zi (x))), (4, .int (zi (y)))] := hl
  refine lv_aload_n (pc := 0) hx hb dX4_timeOf_0 rfl (lv_at hl 0 rfl) ?_
  refine lv_iload_n (pc := 1) hx hb dX4_timeOf_1 rfl (lv_at hl 1 rfl) ?_
  refine lv_iload_n (pc := 2) hx hb dX4_timeOf_2 rfl (lv_at hl 2 rfl) ?_
  refine wv_V (pc := 3) hx hb hml hown hT hK (c_X4_lay D cI cJ l ad n st hr ca sp k ts th pr hc lu ll up lo fr rr hv hU (S) (by omega) (b) (by omega)) ca_X4_lay tw_455 hP hD hS (fun q h => inW_same (by rfl) h) 0 4 rfl rfl rfl ⟨Nat.le_of_ble_eq_true rfl, Nat.le_of_ble_eq_true rfl⟩ rfl hl.1 (As := [.int (zi (S)), .int (zi (b))]) (rest := []) rfl (Nat.le_of_ble_eq_true rfl) ⟨Nat.le_of_ble_eq_true rfl, Nat.le_of_ble_eq_true rfl⟩ dX4_timeOf_3 (fun ws_ H locs hΦ hP hz_ hk_ hS => ?_)
  obtain ⟨fr_1, rr_1, hRW_1, rfl⟩ := hΦ
  replace hD : va_D (inW (wM ad cI n st hr ca sp k ts th pr hc lu ll up lo fr rr hv)) (wM ad cI n st hr ca sp k ts th pr hc lu ll up lo fr_1 rr_1 hv) := hD.same rfl
  have hs := ST_of hU S b
  have h0 := (lev_0 hs).1
  have loop : ∀ u : Nat, u ≤ 501 → ∀ (z5 zu zl : Int), ∀ (H : Heap) (locs : List Loc), (z5 = (u : Int)) → (zu = (rdU (lev (FF n st hr ca S b) (RR n st hr S) (u - 1)) (lev (FF n st hr ca S b) (RR n st hr S) 0) : Int)) → (zl = (rdL (lev (FF n st hr ca S b) (RR n st hr S) (u - 1)) (lev (FF n st hr ca S b) (RR n st hr S) 0) : Int)) → (timeF (tmT (FF n st hr ca S b) (RR n st hr S) x y) 501 = timeF (tmT (FF n st hr ca S b) (RR n st hr S) x y) (501 - u)) → va_P D vwCl (wM ad cI n st hr ca sp k ts th pr hc zu zl up lo fr_1 rr_1 hv) H → va_D (inW (wM ad cI n st hr ca sp k ts th pr hc lu ll up lo fr rr hv)) (wM ad cI n st hr ca sp k ts th pr hc zu zl up lo fr_1 rr_1 hv) → va_S (inW (wM ad cI n st hr ca sp k ts th pr hc lu ll up lo fr rr hv)) s.heap H locs → ∀ ls : Array Slot, lv_has ls 6 [(0, .ref (ad 0)), (3, .int (zi (x))), (4, .int (zi (y))), (5, .int (zi (z5)))] → W p l e (RM 3 71) s m args below meth c H locs 0 0 (MQ below (QW D (wM ad cI n st hr ca sp k ts th pr hc lu ll up lo fr rr hv) (fun v' ws' => v' = .int (zi (timeF (tmT (FF n st hr ca S b) (RR n st hr S) x y) 501)) ∧ ∃ (lu' ll' up' lo' : Int) (fr' rr' : Nat → Int), ws' = (wM ad cI n st hr ca sp k ts th pr hc lu' ll' up' lo' fr' rr' hv))) args s 0 0 (inW (wM ad cI n st hr ca sp k ts th pr hc lu ll up lo fr rr hv))) (F0 m 19 ls []) := by
    refine lp_up (fun u => ∀ (z5 zu zl : Int), ∀ (H : Heap) (locs : List Loc), (z5 = (u : Int)) → (zu = (rdU (lev (FF n st hr ca S b) (RR n st hr S) (u - 1)) (lev (FF n st hr ca S b) (RR n st hr S) 0) : Int)) → (zl = (rdL (lev (FF n st hr ca S b) (RR n st hr S) (u - 1)) (lev (FF n st hr ca S b) (RR n st hr S) 0) : Int)) → (timeF (tmT (FF n st hr ca S b) (RR n st hr S) x y) 501 = timeF (tmT (FF n st hr ca S b) (RR n st hr S) x y) (501 - u)) → va_P D vwCl (wM ad cI n st hr ca sp k ts th pr hc zu zl up lo fr_1 rr_1 hv) H → va_D (inW (wM ad cI n st hr ca sp k ts th pr hc lu ll up lo fr rr hv)) (wM ad cI n st hr ca sp k ts th pr hc zu zl up lo fr_1 rr_1 hv) → va_S (inW (wM ad cI n st hr ca sp k ts th pr hc lu ll up lo fr rr hv)) s.heap H locs → ∀ ls : Array Slot, lv_has ls 6 [(0, .ref (ad 0)), (3, .int (zi (x))), (4, .int (zi (y))), (5, .int (zi (z5)))] → W p l e (RM 3 71) s m args below meth c H locs 0 0 (MQ below (QW D (wM ad cI n st hr ca sp k ts th pr hc lu ll up lo fr rr hv) (fun v' ws' => v' = .int (zi (timeF (tmT (FF n st hr ca S b) (RR n st hr S) x y) 501)) ∧ ∃ (lu' ll' up' lo' : Int) (fr' rr' : Nat → Int), ws' = (wM ad cI n st hr ca sp k ts th pr hc lu' ll' up' lo' fr' rr' hv))) args s 0 0 (inW (wM ad cI n st hr ca sp k ts th pr hc lu ll up lo fr rr hv))) (F0 m 19 ls [])) (501) ?_ ?_
    · intro z5 zu zl H locs e5 eu el et hP hD hS ls hl
      refine lv_iload (pc := 19) hx hb dX4_timeOf_19 (lv_at hl 3 rfl) ?_
      refine z_sipush (pc := 21) hx hb dX4_timeOf_21 (by decide) ?_
      refine z_icmp_gt (tgt := 61) (pc := 24) hx hb dX4_timeOf_24 (by decide) (by omega) (by omega) (fun c_2 => ?_) (fun c_2 => absurd c_2 (by omega))
      refine z_iconst (pc := 61) hx hb dX4_timeOf_61 ?_
      exact wr_iret hx hb hrt hlk dX4_timeOf_62 hP hS (⟨by rw [et]; rfl, _, _, _, _, _, _, rfl⟩)
    · intro u hu ih z5 zu zl H locs e5 eu el et hP hD hS ls hl
      refine lv_iload (pc := 19) hx hb dX4_timeOf_19 (lv_at hl 3 rfl) ?_
      refine z_sipush (pc := 21) hx hb dX4_timeOf_21 (by decide) ?_
      refine z_icmp_gt (tgt := 61) (pc := 24) hx hb dX4_timeOf_24 (by decide) (by omega) (by omega) (fun c_3 => absurd c_3 (by omega)) (fun c_3 => ?_)
      refine lv_aload_n (pc := 27) hx hb dX4_timeOf_27 rfl (lv_at hl 0 rfl) ?_
      refine lv_iload (pc := 28) hx hb dX4_timeOf_28 (lv_at hl 3 rfl) ?_
      refine wv_V (pc := 30) hx hb hml hown hT hK (c_X4_goOn D cI cJ l ad n st hr ca sp k ts th pr hc zu zl up lo fr_1 rr_1 hv (FF n st hr ca S b) (RR n st hr S) (ST_of hU S b) hRW_1 (z5) 0 (u - 1) u (by omega) h0 (by omega) (by omega) (by rcases Nat.eq_zero_or_pos u with q | q; exact Or.inr ⟨by omega, by rw [q]; exact hs.1⟩; exact Or.inl (by omega)) eu el) ca_X4_goOn tw_467 hP hD hS (fun q h => inW_same (by rfl) h) 0 4 rfl rfl rfl ⟨Nat.le_of_ble_eq_true rfl, Nat.le_of_ble_eq_true rfl⟩ rfl hl.1 (As := [.int (zi (z5))]) (rest := []) rfl (Nat.le_of_ble_eq_true rfl) ⟨Nat.le_of_ble_eq_true rfl, Nat.le_of_ble_eq_true rfl⟩ dX4_timeOf_30 (fun ws_ H locs hΦ hP hz_ hk_ hS => ?_)
      subst hΦ
      replace hP : va_P D vwCl (wM ad cI n st hr ca sp k ts th pr hc ((rdU (lev (FF n st hr ca S b) (RR n st hr S) u) (lev (FF n st hr ca S b) (RR n st hr S) 0) : Int)) ((rdL (lev (FF n st hr ca S b) (RR n st hr S) u) (lev (FF n st hr ca S b) (RR n st hr S) 0) : Int)) up lo fr_1 rr_1 hv) H := hP
      replace hD : va_D (inW (wM ad cI n st hr ca sp k ts th pr hc lu ll up lo fr rr hv)) (wM ad cI n st hr ca sp k ts th pr hc ((rdU (lev (FF n st hr ca S b) (RR n st hr S) u) (lev (FF n st hr ca S b) (RR n st hr S) 0) : Int)) ((rdL (lev (FF n st hr ca S b) (RR n st hr S) u) (lev (FF n st hr ca S b) (RR n st hr S) 0) : Int)) up lo fr_1 rr_1 hv) := hD.same rfl
      have hti := tm_iff (L := lev (FF n st hr ca S b) (RR n st hr S) u) h0 (a := x) (b := y)
      have hrb := low_left hs (Nat.zero_le u) (show u ≤ 500 by omega) h0
      have hrl := rd_le (k := 1) h0 (show lev (FF n st hr ca S b) (RR n st hr S) u ≤ 1 * lev (FF n st hr ca S b) (RR n st hr S) 0 by rw [Nat.one_mul]; exact lev_mono hs (Nat.zero_le u) (by omega))
      have m1 := mul_rng (a := (rdU (lev (FF n st hr ca S b) (RR n st hr S) u) (lev (FF n st hr ca S b) (RR n st hr S) 0) : Int)) (b := y) (A := 599040) (B := 1000) (by omega) (by omega)
      have m2 := mul_rng (a := x) (b := (rdL (lev (FF n st hr ca S b) (RR n st hr S) u) (lev (FF n st hr ca S b) (RR n st hr S) 0) : Int)) (A := 1000) (B := 599040) (by omega) (by omega)
      refine lv_aload_n (pc := 33) hx hb dX4_timeOf_33 rfl (lv_at hl 0 rfl) ?_
      refine va_get (D := D) (cl := vwCl) (ci := 4) (v := .long (zj ((rdU (lev (FF n st hr ca S b) (RR n st hr S) u) (lev (FF n st hr ca S b) (RR n st hr S) 0) : Int)))) (C := RX4) (T := TX4) (N := 17) (pc := 34) hx hb hT inT4 hown hK.1 hP 0 rfl rfl 10 (by decide) (hT _ tw_347) (fun _ h9 => h9) rfl dX4_timeOf_34 ?_
      refine lv_iload (pc := 37) hx hb dX4_timeOf_37 (lv_at hl 2 rfl) ?_
      refine z_i2l (pc := 39) hx hb (by omega) dX4_timeOf_39 ?_
      refine z_lmul (pc := 40) hx hb dX4_timeOf_40 ?_
      refine lv_iload_n (pc := 41) hx hb dX4_timeOf_41 rfl (lv_at hl 1 rfl) ?_
      refine z_i2l (pc := 42) hx hb (by omega) dX4_timeOf_42 ?_
      refine lv_aload_n (pc := 43) hx hb dX4_timeOf_43 rfl (lv_at hl 0 rfl) ?_
      refine va_get (D := D) (cl := vwCl) (ci := 4) (v := .long (zj ((rdL (lev (FF n st hr ca S b) (RR n st hr S) u) (lev (FF n st hr ca S b) (RR n st hr S) 0) : Int)))) (C := RX4) (T := TX4) (N := 17) (pc := 44) hx hb hT inT4 hown hK.1 hP 0 rfl rfl 11 (by decide) (hT _ tw_348) (fun _ h9 => h9) rfl dX4_timeOf_44 ?_
      refine z_lmul (pc := 47) hx hb dX4_timeOf_47 ?_
      refine z_lcmp_gt (tgt := 55) (pc := 48) hx hb dX4_timeOf_48 dX4_timeOf_49 (by decide) (by omega) (by omega) (fun c_4 => ?_) (fun c_4 => ?_)
      · have hnT : ¬ (rdU (lev (FF n st hr ca S b) (RR n st hr S) u) (lev (FF n st hr ca S b) (RR n st hr S) 0) : Int) * y ≤ x * (rdL (lev (FF n st hr ca S b) (RR n st hr S) u) (lev (FF n st hr ca S b) (RR n st hr S) 0) : Int) → ¬ (tmT (FF n st hr ca S b) (RR n st hr S) x y) u := fun q1 q2 => q1 (hti.mpr q2)
        refine lv_iinc (v := zi (z5 + 1)) (lv' := [(5, .int (zi ((z5 + 1)))), (0, .ref (ad 0)), (3, .int (zi (x))), (4, .int (zi (y)))]) (pc := 55) hx hb dX4_timeOf_55 hl (k := 3) rfl (zi_add _ _) (by decide) rfl (fun ls hl => ?_)
        refine lv_goto (tgt := 19) (pc := 58) hx hb dX4_timeOf_58 (by decide) ?_
        exact ih  _ _ _ _ _ (by omega) (by rw [Nat.add_sub_cancel]) (by rw [Nat.add_sub_cancel]) (by rw [et]; exact timeF_to (by omega) (by omega) (fun t h1 h2 => by rw [show t = u by omega]; exact hnT (by omega))) hP hD hS ls (lv_sub hl [1, 2, 3, 0] rfl)
      · have hT2 : (tmT (FF n st hr ca S b) (RR n st hr S) x y) u := hti.mp (by omega)
        refine lv_iload (pc := 52) hx hb dX4_timeOf_52 (lv_at hl 3 rfl) ?_
        exact wr_iret hx hb hrt hlk dX4_timeOf_54 hP hS (⟨by rw [et, timeF_hit (by omega) hT2, e5], _, _, _, _, _, _, rfl⟩)
  refine lv_aload_n (pc := 6) hx hb dX4_timeOf_6 rfl (lv_at hl 0 rfl) ?_
  refine z_lconst1 (pc := 7) hx hb dX4_timeOf_7 ?_
  refine va_put (D := D) (cl := vwCl) (ci := 4) (v := .long (zj (1))) (ty := .long) (C := RX4) (T := TX4) (N := 17) (pc := 8) hx hb hT inT4 tyX4 tyX4_ok nmX4 hown hK.1 hP hD hS 0 rfl rfl 10 (by decide) (hT _ tw_347) (fun _ h9 => h9) rfl (by decide +kernel) rfl rfl (Nat.le_of_ble_eq_true rfl) dX4_timeOf_8 (fun H locs hP hD hS => ?_)
  replace hP : va_P D vwCl (wM ad cI n st hr ca sp k ts th pr hc 1 ll up lo fr_1 rr_1 hv) H := hP
  replace hD : va_D (inW (wM ad cI n st hr ca sp k ts th pr hc lu ll up lo fr rr hv)) (wM ad cI n st hr ca sp k ts th pr hc 1 ll up lo fr_1 rr_1 hv) := hD
  refine lv_aload_n (pc := 11) hx hb dX4_timeOf_11 rfl (lv_at hl 0 rfl) ?_
  refine z_lconst1 (pc := 12) hx hb dX4_timeOf_12 ?_
  refine va_put (D := D) (cl := vwCl) (ci := 4) (v := .long (zj (1))) (ty := .long) (C := RX4) (T := TX4) (N := 17) (pc := 13) hx hb hT inT4 tyX4 tyX4_ok nmX4 hown hK.1 hP hD hS 0 rfl rfl 11 (by decide) (hT _ tw_348) (fun _ h9 => h9) rfl (by decide +kernel) rfl rfl (Nat.le_of_ble_eq_true rfl) dX4_timeOf_13 (fun H locs hP hD hS => ?_)
  replace hP : va_P D vwCl (wM ad cI n st hr ca sp k ts th pr hc 1 1 up lo fr_1 rr_1 hv) H := hP
  replace hD : va_D (inW (wM ad cI n st hr ca sp k ts th pr hc lu ll up lo fr rr hv)) (wM ad cI n st hr ca sp k ts th pr hc 1 1 up lo fr_1 rr_1 hv) := hD
  refine z_iconst (pc := 16) hx hb dX4_timeOf_16 ?_
  refine lv_istore (lv' := [(5, .int (zi (0))), (0, .ref (ad 0)), (1, .int (zi (S))), (2, .int (zi (b))), (3, .int (zi (x))), (4, .int (zi (y)))]) (pc := 17) hx hb dX4_timeOf_17 hl (by decide) rfl (fun ls hl => ?_)
  exact loop 0 (by omega) _ _ _ _ _ (by rfl) (by rw [show 0 - 1 = 0 from rfl, (rd_self h0).1]; rfl) (by rw [show 0 - 1 = 0 from rfl, (rd_self h0).2]; rfl) (by rfl) hP hD hS ls (lv_sub hl [1, 4, 5, 0] rfl)

set_option maxHeartbeats 4000000 in
set_option maxRecDepth 100000 in
theorem c_X4_time (D : va_G) (cI cJ : ClassId) (l : Launch) (ad : Nat → Nat) (n : Int) (st hr ca sp : Nat → Int) (k : Int) (ts th : Nat → Int) (pr hc lu ll up lo : Int) (fr rr hv : Nat → Int) (hU : VU n st hr ca) (S : Int) (r_S : -2147483648 ≤ S ∧ S ≤ 2147483647) (b : Int) (r_b : -2147483648 ≤ b ∧ b ≤ 2147483647) (x : Int) (r_x : -2147483648 ≤ x ∧ x ≤ 2147483647) (y : Int) (r_y : -2147483648 ≤ y ∧ y ≤ 2147483647) : WR D cI cJ l yX4_time cX4_time 5 (some .int) 4 96 [.ref (ad 0), .int (zi (S)), .int (zi (b)), .int (zi (x)), .int (zi (y))] (wM ad cI n st hr ca sp k ts th pr hc lu ll up lo fr rr hv) (fun v' ws' => v' = .int (zi (timeV n st hr ca S b x y)) ∧ ∃ (lu' ll' up' lo' : Int) (fr' rr' : Nat → Int), ws' = (wM ad cI n st hr ca sp k ts th pr hc lu' ll' up' lo' fr' rr' hv)) := by
  refine WR.of (by decide) (Nat.le_of_ble_eq_true rfl) ?_
  intro p e s m args below meth c hx hb hrt hml hown hT hlk hK hP hD hS ls hl
  replace hl : lv_has ls 5 [(0, .ref (ad 0)), (1, .int (zi (S))), (2, .int (zi (b))), (3, .int (zi (x))), (4, .int (zi (y)))] := hl
  refine lv_iload_n (pc := 0) hx hb dX4_time_0 rfl (lv_at hl 1 rfl) ?_
  refine rd_S (pc := 1) hx hb hml hown hT hK (c_X4_isSet D cI cJ l (S) (by omega)) ca_X4_isSet tw_433 va_Pnil ⟨Nat.le_of_ble_eq_true rfl, Nat.le_of_ble_eq_true rfl⟩ rfl hl.1 (As := [.int (zi (S))]) (rest := []) rfl (Nat.le_of_ble_eq_true rfl) ⟨Nat.le_of_ble_eq_true rfl, Nat.le_of_ble_eq_true rfl⟩ dX4_time_1 ?_
  refine z_ifB_eq (tgt := 39) (pc := 4) hx hb dX4_time_4 (by decide) (fun c_1 => ?_) (fun c_1 => ?_)
  · refine z_sipush (pc := 39) hx hb dX4_time_39 (by decide) ?_
    exact wr_iret hx hb hrt hlk dX4_time_42 hP hS (⟨by rw [timeV, if_neg (by omega)], lu, ll, up, lo, fr, rr, rfl⟩)
  · refine lv_iload_n (pc := 7) hx hb dX4_time_7 rfl (lv_at hl 2 rfl) ?_
    refine rd_S (pc := 8) hx hb hml hown hT hK (c_X4_isCause D cI cJ l (b) (by omega)) ca_X4_isCause tw_404 va_Pnil ⟨Nat.le_of_ble_eq_true rfl, Nat.le_of_ble_eq_true rfl⟩ rfl hl.1 (As := [.int (zi (b))]) (rest := []) rfl (Nat.le_of_ble_eq_true rfl) ⟨Nat.le_of_ble_eq_true rfl, Nat.le_of_ble_eq_true rfl⟩ dX4_time_8 ?_
    refine z_ifB_eq (tgt := 39) (pc := 11) hx hb dX4_time_11 (by decide) (fun c_2 => ?_) (fun c_2 => ?_)
    · refine z_sipush (pc := 39) hx hb dX4_time_39 (by decide) ?_
      exact wr_iret hx hb hrt hlk dX4_time_42 hP hS (⟨by rw [timeV, if_neg (by omega)], lu, ll, up, lo, fr, rr, rfl⟩)
    · refine lv_iload (pc := 14) hx hb dX4_time_14 (lv_at hl 4 rfl) ?_
      refine z_i2l (pc := 16) hx hb (by omega) dX4_time_16 ?_
      refine z_lconst1 (pc := 17) hx hb dX4_time_17 ?_
      refine z_ldc2 (pc := 18) hx hb (1000) hown (hT _ tw_478) (by decide) dX4_time_18 ?_
      refine rd_S (pc := 21) hx hb hml hown hT hK (c_X4_in D cI cJ l (y) (by omega) (1) (by omega) (1000) (by omega)) ca_X4_in tw_400 va_Pnil ⟨Nat.le_of_ble_eq_true rfl, Nat.le_of_ble_eq_true rfl⟩ rfl hl.1 (As := [.long (zj (y)), .long (zj (1)), .long (zj (1000))]) (rest := []) rfl (Nat.le_of_ble_eq_true rfl) ⟨Nat.le_of_ble_eq_true rfl, Nat.le_of_ble_eq_true rfl⟩ dX4_time_21 ?_
      refine z_ifB_eq (tgt := 39) (pc := 24) hx hb dX4_time_24 (by decide) (fun c_3 => ?_) (fun c_3 => ?_)
      · refine z_sipush (pc := 39) hx hb dX4_time_39 (by decide) ?_
        exact wr_iret hx hb hrt hlk dX4_time_42 hP hS (⟨by rw [timeV, if_neg (by omega)], lu, ll, up, lo, fr, rr, rfl⟩)
      · refine lv_iload_n (pc := 27) hx hb dX4_time_27 rfl (lv_at hl 3 rfl) ?_
        refine z_i2l (pc := 28) hx hb (by omega) dX4_time_28 ?_
        refine z_lconst0 (pc := 29) hx hb dX4_time_29 ?_
        refine lv_iload (pc := 30) hx hb dX4_time_30 (lv_at hl 4 rfl) ?_
        refine z_i2l (pc := 32) hx hb (by omega) dX4_time_32 ?_
        refine rd_S (pc := 33) hx hb hml hown hT hK (c_X4_in D cI cJ l (x) (by omega) (0) (by omega) (y) (by omega)) ca_X4_in tw_400 va_Pnil ⟨Nat.le_of_ble_eq_true rfl, Nat.le_of_ble_eq_true rfl⟩ rfl hl.1 (As := [.long (zj (x)), .long (zj (0)), .long (zj (y))]) (rest := []) rfl (Nat.le_of_ble_eq_true rfl) ⟨Nat.le_of_ble_eq_true rfl, Nat.le_of_ble_eq_true rfl⟩ dX4_time_33 ?_
        refine z_ifB_ne (tgt := 43) (pc := 36) hx hb dX4_time_36 (by decide) (fun c_4 => ?_) (fun c_4 => ?_)
        · refine lv_aload_n (pc := 43) hx hb dX4_time_43 rfl (lv_at hl 0 rfl) ?_
          refine lv_iload_n (pc := 44) hx hb dX4_time_44 rfl (lv_at hl 1 rfl) ?_
          refine lv_iload_n (pc := 45) hx hb dX4_time_45 rfl (lv_at hl 2 rfl) ?_
          refine lv_iload_n (pc := 46) hx hb dX4_time_46 rfl (lv_at hl 3 rfl) ?_
          refine lv_iload (pc := 47) hx hb dX4_time_47 (lv_at hl 4 rfl) ?_
          refine wr_V (pc := 49) hx hb hml hown hT hK (c_X4_timeOf D cI cJ l ad n st hr ca sp k ts th pr hc lu ll up lo fr rr hv hU (S) (by omega) (b) (by omega) (x) (y) (by omega)) ca_X4_timeOf tw_479 hP hD hS (fun q h => inW_same (by rfl) h) 0 4 rfl rfl rfl ⟨Nat.le_of_ble_eq_true rfl, Nat.le_of_ble_eq_true rfl⟩ rfl hl.1 (As := [.int (zi (S)), .int (zi (b)), .int (zi (x)), .int (zi (y))]) (rest := []) rfl (Nat.le_of_ble_eq_true rfl) ⟨Nat.le_of_ble_eq_true rfl, Nat.le_of_ble_eq_true rfl⟩ dX4_time_49 (fun v_ ws_ H locs hΦ hP hz_ hk_ hS => ?_)
          obtain ⟨rfl, lu_5, ll_5, up_5, lo_5, fr_5, rr_5, rfl⟩ := hΦ
          replace hD : va_D (inW (wM ad cI n st hr ca sp k ts th pr hc lu ll up lo fr rr hv)) (wM ad cI n st hr ca sp k ts th pr hc lu_5 ll_5 up_5 lo_5 fr_5 rr_5 hv) := hD.same rfl
          exact wr_iret hx hb hrt hlk dX4_time_52 hP hS (⟨by rw [timeV, if_pos (by omega)], _, _, _, _, _, _, rfl⟩)
        · refine z_sipush (pc := 39) hx hb dX4_time_39 (by decide) ?_
          exact wr_iret hx hb hrt hlk dX4_time_42 hP hS (⟨by rw [timeV, if_neg (by omega)], lu, ll, up, lo, fr, rr, rfl⟩)

def RI (F R : Nat → Nat) (h : Nat) (q : Int) (u : Nat) (z5 z6 z8 : Int) : Prop := (u = 0 ∧ z5 = -1) ∨ (1 ≤ u ∧ z5 = (bestF F R h q u : Int) ∧ z6 = XU F R h q (bestF F R h q u) ∧ z8 = 100 * (KL F R h (bestF F R h q u) : Int))
theorem RI_rng {F R : Nat → Nat} (hs : STd F R) {h : Nat} {q : Int} (hh : h ≤ 500) (hq : 0 ≤ q ∧ q ≤ 100) {u : Nat} (hu : u ≤ h) {z5 z6 z8 : Int} (hR : RI F R h q u z5 z6 z8) : -1 ≤ z5 ∧ z5 ≤ 500 ∧ (¬ z5 < 0 → u ≠ 0 ∧ (-29952000000 ≤ z6 ∧ z6 ≤ 29952000000) ∧ 0 < z8 ∧ z8 ≤ 59904000) ∧ (z5 < 0 → u = 0) := by
  rcases hR with ⟨h1, h2⟩ | ⟨h1, h2, h3, h4⟩
  · omega
  · have hy := best_lt (F := F) (R := R) (h := h) (cost := q) (lev_0 hs).1 u
    have k1 := KL_rng hs hh (B := bestF F R h q u) (by omega) hy.1
    have k2 := XU_rng hs hh (B := bestF F R h q u) (by omega) hq hy.1
    rw [h2, h3, h4]
    omega
theorem RI_skip {F R : Nat → Nat} (hs : STd F R) {h : Nat} {q : Int} {u : Nat} {z5 z6 z8 : Int} (hR : RI F R h q u z5 z6 z8) (hz : ¬ 0 < lev F R u) : RI F R h q (u + 1) z5 z6 z8 := by
  rcases hR with ⟨h1, h2⟩ | ⟨h1, h2, h3, h4⟩
  · exfalso
    have := (lev_0 hs).1
    rw [h1] at hz
    omega
  · have e : bestF F R h q (u + 1) = bestF F R h q u := by rw [bestF_s, if_neg (fun w => hz w.1)]
    exact Or.inr ⟨by omega, by rw [e]; exact h2, by rw [e]; exact h3, by rw [e]; exact h4⟩
theorem RI_set {F R : Nat → Nat} {h : Nat} {q : Int} {u : Nat} {z5 z6 z8 : Int} (hR : RI F R h q u z5 z6 z8) (hz : 0 < lev F R u) (hg : u = 0 ∨ z6 * (100 * (KL F R h u : Int)) < XU F R h q u * z8) : RI F R h q (u + 1) (u : Int) (XU F R h q u) (100 * (KL F R h u : Int)) := by
  have e : bestF F R h q (u + 1) = u := by
    rcases hR with ⟨h1, h2⟩ | ⟨h1, h2, h3, h4⟩
    · subst h1
      rw [bestF_s]; split <;> rfl
    · rw [bestF_s, if_pos]
      refine ⟨hz, ?_⟩
      rcases hg with hg | hg
      · omega
      · rw [h3, h4] at hg
        have e1 : XU F R h q (bestF F R h q u) * (100 * (KL F R h u : Int)) = 100 * (XU F R h q (bestF F R h q u) * (KL F R h u : Int)) := by grind
        have e2 : XU F R h q u * (100 * (KL F R h (bestF F R h q u) : Int)) = 100 * (XU F R h q u * (KL F R h (bestF F R h q u) : Int)) := by grind
        rw [e1, e2] at hg
        omega
  exact Or.inr ⟨by omega, by rw [e], by rw [e], by rw [e]⟩
theorem RI_keep {F R : Nat → Nat} {h : Nat} {q : Int} {u : Nat} {z5 z6 z8 : Int} (hR : RI F R h q u z5 z6 z8) (hu : u ≠ 0) (hg : ¬ z6 * (100 * (KL F R h u : Int)) < XU F R h q u * z8) : RI F R h q (u + 1) z5 z6 z8 := by
  rcases hR with ⟨h1, h2⟩ | ⟨h1, h2, h3, h4⟩
  · exact absurd h1 hu
  · have e : bestF F R h q (u + 1) = bestF F R h q u := by
      rw [bestF_s, if_neg]
      intro w
      rw [h3, h4] at hg
      have e1 : XU F R h q (bestF F R h q u) * (100 * (KL F R h u : Int)) = 100 * (XU F R h q (bestF F R h q u) * (KL F R h u : Int)) := by grind
      have e2 : XU F R h q u * (100 * (KL F R h (bestF F R h q u) : Int)) = 100 * (XU F R h q u * (KL F R h (bestF F R h q u) : Int)) := by grind
      rw [e1, e2] at hg
      have := w.2
      omega
    exact Or.inr ⟨by omega, by rw [e]; exact h2, by rw [e]; exact h3, by rw [e]; exact h4⟩

set_option maxHeartbeats 4000000 in
set_option maxRecDepth 100000 in
theorem c_X4_runIn (D : va_G) (cI cJ : ClassId) (l : Launch) (ad : Nat → Nat) (n : Int) (st hr ca sp : Nat → Int) (k : Int) (ts th : Nat → Int) (pr hc lu ll up lo : Int) (fr rr hv : Nat → Int) (hU : VU n st hr ca) (S : Int) (r_S : -2147483648 ≤ S ∧ S ≤ 2147483647) (b : Int) (r_b : -2147483648 ≤ b ∧ b ≤ 2147483647) (h : Int) (r_h : -2147483648 ≤ h ∧ h ≤ 2147483647) (q : Int) (r_q : -2147483648 ≤ q ∧ q ≤ 2147483647) : WR D cI cJ l yX4_runIn cX4_runIn 15 (some .int) 4 97 [.ref (ad 0), .int (zi (S)), .int (zi (b)), .int (zi (h)), .int (zi (q))] (wM ad cI n st hr ca sp k ts th pr hc lu ll up lo fr rr hv) (fun v' ws' => v' = .int (zi (runInV n st hr ca S b h q)) ∧ ∃ (lu' ll' up' lo' : Int) (fr' rr' : Nat → Int), ws' = (wM ad cI n st hr ca sp k ts th pr hc lu' ll' up' lo' fr' rr' hv)) := by
  refine WR.of (by decide) (Nat.le_of_ble_eq_true rfl) ?_
  intro p e s m args below meth c hx hb hrt hml hown hT hlk hK hP hD hS ls hl
  replace hl : lv_has ls 15 [(0, .ref (ad 0)), (1, .int (zi (S))), (2, .int (zi (b))), (3, .int (zi (h))), (4, .int (zi (q)))] := hl
  refine lv_iload_n (pc := 0) hx hb dX4_runIn_0 rfl (lv_at hl 1 rfl) ?_
  refine rd_S (pc := 1) hx hb hml hown hT hK (c_X4_isSet D cI cJ l (S) (by omega)) ca_X4_isSet tw_433 va_Pnil ⟨Nat.le_of_ble_eq_true rfl, Nat.le_of_ble_eq_true rfl⟩ rfl hl.1 (As := [.int (zi (S))]) (rest := []) rfl (Nat.le_of_ble_eq_true rfl) ⟨Nat.le_of_ble_eq_true rfl, Nat.le_of_ble_eq_true rfl⟩ dX4_runIn_1 ?_
  refine z_ifB_eq (tgt := 39) (pc := 4) hx hb dX4_runIn_4 (by decide) (fun c_1 => ?_) (fun c_1 => ?_)
  · refine z_sipush (pc := 39) hx hb dX4_runIn_39 (by decide) ?_
    exact wr_iret hx hb hrt hlk dX4_runIn_42 hP hS (⟨by rw [runInV, if_neg (by omega)], lu, ll, up, lo, fr, rr, rfl⟩)
  · refine lv_iload_n (pc := 7) hx hb dX4_runIn_7 rfl (lv_at hl 2 rfl) ?_
    refine rd_S (pc := 8) hx hb hml hown hT hK (c_X4_isCause D cI cJ l (b) (by omega)) ca_X4_isCause tw_404 va_Pnil ⟨Nat.le_of_ble_eq_true rfl, Nat.le_of_ble_eq_true rfl⟩ rfl hl.1 (As := [.int (zi (b))]) (rest := []) rfl (Nat.le_of_ble_eq_true rfl) ⟨Nat.le_of_ble_eq_true rfl, Nat.le_of_ble_eq_true rfl⟩ dX4_runIn_8 ?_
    refine z_ifB_eq (tgt := 39) (pc := 11) hx hb dX4_runIn_11 (by decide) (fun c_2 => ?_) (fun c_2 => ?_)
    · refine z_sipush (pc := 39) hx hb dX4_runIn_39 (by decide) ?_
      exact wr_iret hx hb hrt hlk dX4_runIn_42 hP hS (⟨by rw [runInV, if_neg (by omega)], lu, ll, up, lo, fr, rr, rfl⟩)
    · refine lv_iload_n (pc := 14) hx hb dX4_runIn_14 rfl (lv_at hl 3 rfl) ?_
      refine z_i2l (pc := 15) hx hb (by omega) dX4_runIn_15 ?_
      refine z_lconst1 (pc := 16) hx hb dX4_runIn_16 ?_
      refine z_ldc2 (pc := 17) hx hb (500) hown (hT _ tw_403) (by decide) dX4_runIn_17 ?_
      refine rd_S (pc := 20) hx hb hml hown hT hK (c_X4_in D cI cJ l (h) (by omega) (1) (by omega) (500) (by omega)) ca_X4_in tw_400 va_Pnil ⟨Nat.le_of_ble_eq_true rfl, Nat.le_of_ble_eq_true rfl⟩ rfl hl.1 (As := [.long (zj (h)), .long (zj (1)), .long (zj (500))]) (rest := []) rfl (Nat.le_of_ble_eq_true rfl) ⟨Nat.le_of_ble_eq_true rfl, Nat.le_of_ble_eq_true rfl⟩ dX4_runIn_20 ?_
      refine z_ifB_eq (tgt := 39) (pc := 23) hx hb dX4_runIn_23 (by decide) (fun c_3 => ?_) (fun c_3 => ?_)
      · refine z_sipush (pc := 39) hx hb dX4_runIn_39 (by decide) ?_
        exact wr_iret hx hb hrt hlk dX4_runIn_42 hP hS (⟨by rw [runInV, if_neg (by omega)], lu, ll, up, lo, fr, rr, rfl⟩)
      · refine lv_iload (pc := 26) hx hb dX4_runIn_26 (lv_at hl 4 rfl) ?_
        refine z_i2l (pc := 28) hx hb (by omega) dX4_runIn_28 ?_
        refine z_lconst0 (pc := 29) hx hb dX4_runIn_29 ?_
        refine z_ldc2 (pc := 30) hx hb (100) hown (hT _ tw_508) (by decide) dX4_runIn_30 ?_
        refine rd_S (pc := 33) hx hb hml hown hT hK (c_X4_in D cI cJ l (q) (by omega) (0) (by omega) (100) (by omega)) ca_X4_in tw_400 va_Pnil ⟨Nat.le_of_ble_eq_true rfl, Nat.le_of_ble_eq_true rfl⟩ rfl hl.1 (As := [.long (zj (q)), .long (zj (0)), .long (zj (100))]) (rest := []) rfl (Nat.le_of_ble_eq_true rfl) ⟨Nat.le_of_ble_eq_true rfl, Nat.le_of_ble_eq_true rfl⟩ dX4_runIn_33 ?_
        refine z_ifB_ne (tgt := 43) (pc := 36) hx hb dX4_runIn_36 (by decide) (fun c_4 => ?_) (fun c_4 => ?_)
        · refine lv_aload_n (pc := 43) hx hb dX4_runIn_43 rfl (lv_at hl 0 rfl) ?_
          refine lv_iload_n (pc := 44) hx hb dX4_runIn_44 rfl (lv_at hl 1 rfl) ?_
          refine lv_iload_n (pc := 45) hx hb dX4_runIn_45 rfl (lv_at hl 2 rfl) ?_
          refine wv_V (pc := 46) hx hb hml hown hT hK (c_X4_lay D cI cJ l ad n st hr ca sp k ts th pr hc lu ll up lo fr rr hv hU (S) (by omega) (b) (by omega)) ca_X4_lay tw_455 hP hD hS (fun q h => inW_same (by rfl) h) 0 4 rfl rfl rfl ⟨Nat.le_of_ble_eq_true rfl, Nat.le_of_ble_eq_true rfl⟩ rfl hl.1 (As := [.int (zi (S)), .int (zi (b))]) (rest := []) rfl (Nat.le_of_ble_eq_true rfl) ⟨Nat.le_of_ble_eq_true rfl, Nat.le_of_ble_eq_true rfl⟩ dX4_runIn_46 (fun ws_ H locs hΦ hP hz_ hk_ hS => ?_)
          obtain ⟨fr_5, rr_5, hRW_5, rfl⟩ := hΦ
          replace hD : va_D (inW (wM ad cI n st hr ca sp k ts th pr hc lu ll up lo fr rr hv)) (wM ad cI n st hr ca sp k ts th pr hc lu ll up lo fr_5 rr_5 hv) := hD.same rfl
          have hs := ST_of hU S b
          have loop : ∀ u : Nat, u ≤ h.toNat → ∀ (z5 z6 z8 z10 zu zl zp zo : Int), ∀ (H : Heap) (locs : List Loc), (z10 = (u : Int)) → (RI (FF n st hr ca S b) (RR n st hr S) h.toNat q u z5 z6 z8) → va_P D vwCl (wM ad cI n st hr ca sp k ts th pr hc zu zl zp zo fr_5 rr_5 hv) H → va_D (inW (wM ad cI n st hr ca sp k ts th pr hc lu ll up lo fr rr hv)) (wM ad cI n st hr ca sp k ts th pr hc zu zl zp zo fr_5 rr_5 hv) → va_S (inW (wM ad cI n st hr ca sp k ts th pr hc lu ll up lo fr rr hv)) s.heap H locs → ∀ ls : Array Slot, lv_has ls 15 [(0, .ref (ad 0)), (3, .int (zi (h))), (4, .int (zi (q))), (5, .int (zi (z5))), (6, .long (zj (z6))), (8, .long (zj (z8))), (10, .int (zi (z10)))] → W p l e (RM 4 97) s m args below meth c H locs 0 0 (MQ below (QW D (wM ad cI n st hr ca sp k ts th pr hc lu ll up lo fr rr hv) (fun v' ws' => v' = .int (zi (runInV n st hr ca S b h q)) ∧ ∃ (lu' ll' up' lo' : Int) (fr' rr' : Nat → Int), ws' = (wM ad cI n st hr ca sp k ts th pr hc lu' ll' up' lo' fr' rr' hv))) args s 0 0 (inW (wM ad cI n st hr ca sp k ts th pr hc lu ll up lo fr rr hv))) (F0 m 61 ls []) := by
            refine lp_up (fun u => ∀ (z5 z6 z8 z10 zu zl zp zo : Int), ∀ (H : Heap) (locs : List Loc), (z10 = (u : Int)) → (RI (FF n st hr ca S b) (RR n st hr S) h.toNat q u z5 z6 z8) → va_P D vwCl (wM ad cI n st hr ca sp k ts th pr hc zu zl zp zo fr_5 rr_5 hv) H → va_D (inW (wM ad cI n st hr ca sp k ts th pr hc lu ll up lo fr rr hv)) (wM ad cI n st hr ca sp k ts th pr hc zu zl zp zo fr_5 rr_5 hv) → va_S (inW (wM ad cI n st hr ca sp k ts th pr hc lu ll up lo fr rr hv)) s.heap H locs → ∀ ls : Array Slot, lv_has ls 15 [(0, .ref (ad 0)), (3, .int (zi (h))), (4, .int (zi (q))), (5, .int (zi (z5))), (6, .long (zj (z6))), (8, .long (zj (z8))), (10, .int (zi (z10)))] → W p l e (RM 4 97) s m args below meth c H locs 0 0 (MQ below (QW D (wM ad cI n st hr ca sp k ts th pr hc lu ll up lo fr rr hv) (fun v' ws' => v' = .int (zi (runInV n st hr ca S b h q)) ∧ ∃ (lu' ll' up' lo' : Int) (fr' rr' : Nat → Int), ws' = (wM ad cI n st hr ca sp k ts th pr hc lu' ll' up' lo' fr' rr' hv))) args s 0 0 (inW (wM ad cI n st hr ca sp k ts th pr hc lu ll up lo fr rr hv))) (F0 m 61 ls [])) (h.toNat) ?_ ?_
            · intro z5 z6 z8 z10 zu zl zp zo H locs e10 e1 hP hD hS ls hl
              refine lv_iload (pc := 61) hx hb dX4_runIn_61 (lv_at hl 6 rfl) ?_
              refine lv_iload_n (pc := 63) hx hb dX4_runIn_63 rfl (lv_at hl 1 rfl) ?_
              refine z_icmp_ge (tgt := 153) (pc := 64) hx hb dX4_runIn_64 (by decide) (by omega) (by omega) (fun c_6 => ?_) (fun c_6 => absurd c_6 (by omega))
              refine lv_iload (pc := 153) hx hb dX4_runIn_153 (lv_at hl 3 rfl) ?_
              exact wr_iret hx hb hrt hlk dX4_runIn_155 hP hS (⟨by rcases e1 with ⟨q1, q2⟩ | ⟨q1, q2, q3, q4⟩; exact absurd q1 (by omega); rw [runInV, if_pos (by omega), q2], _, _, _, _, _, _, rfl⟩)
            · intro u hu ih z5 z6 z8 z10 zu zl zp zo H locs e10 e1 hP hD hS ls hl
              refine lv_iload (pc := 61) hx hb dX4_runIn_61 (lv_at hl 6 rfl) ?_
              refine lv_iload_n (pc := 63) hx hb dX4_runIn_63 rfl (lv_at hl 1 rfl) ?_
              refine z_icmp_ge (tgt := 153) (pc := 64) hx hb dX4_runIn_64 (by decide) (by omega) (by omega) (fun c_7 => absurd c_7 (by omega)) (fun c_7 => ?_)
              have hrr := RI_rng hs (by omega) (by omega) (by omega) e1
              refine lv_aload_n (pc := 67) hx hb dX4_runIn_67 rfl (lv_at hl 0 rfl) ?_
              refine lv_iload (pc := 68) hx hb dX4_runIn_68 (lv_at hl 6 rfl) ?_
              refine wr_V (pc := 70) hx hb hml hown hT hK (c_X4_isLeftAt D cI cJ l ad n st hr ca sp k ts th pr hc zu zl zp zo fr_5 rr_5 hv (FF n st hr ca S b) (RR n st hr S) (ST_of hU S b) hRW_5 (z10) u (by omega) (by omega)) ca_X4_isLeftAt tw_499 hP hD hS (fun q h => inW_same (by rfl) h) 0 4 rfl rfl rfl ⟨Nat.le_of_ble_eq_true rfl, Nat.le_of_ble_eq_true rfl⟩ rfl hl.1 (As := [.int (zi (z10))]) (rest := []) rfl (Nat.le_of_ble_eq_true rfl) ⟨Nat.le_of_ble_eq_true rfl, Nat.le_of_ble_eq_true rfl⟩ dX4_runIn_70 (fun v_ ws_ H locs hΦ hP hz_ hk_ hS => ?_)
              obtain ⟨rfl, lu_8, ll_8, rfl⟩ := hΦ
              replace hD : va_D (inW (wM ad cI n st hr ca sp k ts th pr hc lu ll up lo fr rr hv)) (wM ad cI n st hr ca sp k ts th pr hc lu_8 ll_8 zp zo fr_5 rr_5 hv) := hD.same rfl
              refine z_ifB_eq (tgt := 147) (pc := 73) hx hb dX4_runIn_73 (by decide) (fun c_9 => ?_) (fun c_9 => ?_)
              · have hkeep : RI (FF n st hr ca S b) (RR n st hr S) h.toNat q (u + 1) z5 z6 z8 := by
                  first
                  | exact RI_skip hs e1 (by assumption)
                  | exact RI_keep e1 (by omega) (by rw [← exu, ← ekl]; assumption)
                refine lv_iinc (v := zi (z10 + 1)) (lv' := [(10, .int (zi ((z10 + 1)))), (0, .ref (ad 0)), (3, .int (zi (h))), (4, .int (zi (q))), (5, .int (zi (z5))), (6, .long (zj (z6))), (8, .long (zj (z8)))]) (pc := 147) hx hb dX4_runIn_147 hl (k := 6) rfl (zi_add _ _) (by decide) rfl (fun ls hl => ?_)
                refine lv_goto (tgt := 61) (pc := 150) hx hb dX4_runIn_150 (by decide) ?_
                exact ih  _ _ _ _ _ _ _ _ _ _ (by omega) (hkeep) hP hD hS ls (lv_sub hl [1, 2, 3, 4, 5, 6, 0] rfl)
              · refine lv_aload_n (pc := 76) hx hb dX4_runIn_76 rfl (lv_at hl 0 rfl) ?_
                refine lv_iload (pc := 77) hx hb dX4_runIn_77 (lv_at hl 6 rfl) ?_
                refine lv_iload_n (pc := 79) hx hb dX4_runIn_79 rfl (lv_at hl 1 rfl) ?_
                refine wv_V (pc := 80) hx hb hml hown hT hK (c_X4_findRest D cI cJ l ad n st hr ca sp k ts th pr hc lu_8 ll_8 zp zo fr_5 rr_5 hv (FF n st hr ca S b) (RR n st hr S) (ST_of hU S b) hRW_5 (z10) (h) u h.toNat (by omega) (by omega) (by assumption) (by omega)) ca_X4_findRest tw_487 hP hD hS (fun q h => inW_same (by rfl) h) 0 4 rfl rfl rfl ⟨Nat.le_of_ble_eq_true rfl, Nat.le_of_ble_eq_true rfl⟩ rfl hl.1 (As := [.int (zi (z10)), .int (zi (h))]) (rest := []) rfl (Nat.le_of_ble_eq_true rfl) ⟨Nat.le_of_ble_eq_true rfl, Nat.le_of_ble_eq_true rfl⟩ dX4_runIn_80 (fun ws_ H locs hΦ hP hz_ hk_ hS => ?_)
                obtain ⟨lu_10, ll_10, rfl⟩ := hΦ
                replace hD : va_D (inW (wM ad cI n st hr ca sp k ts th pr hc lu ll up lo fr rr hv)) (wM ad cI n st hr ca sp k ts th pr hc lu_10 ll_10 ((rdU (sumL (lev (FF n st hr ca S b) (RR n st hr S)) u (h.toNat - u)) (lev (FF n st hr ca S b) (RR n st hr S) u) : Int)) ((rdL (sumL (lev (FF n st hr ca S b) (RR n st hr S)) u (h.toNat - u)) (lev (FF n st hr ca S b) (RR n st hr S) u) : Int)) fr_5 rr_5 hv) := hD.same rfl
                have hl0 : 0 < lev (FF n st hr ca S b) (RR n st hr S) u := by assumption
                have hkl := KL_rng hs (B := u) (h := h.toNat) (by omega) (by omega) hl0
                have hxu := XU_rng hs (B := u) (h := h.toNat) (cost := q) (by omega) (by omega) (by omega) hl0
                have exu : ((100 * (rdU (sumL (lev (FF n st hr ca S b) (RR n st hr S)) u (h.toNat - u)) (lev (FF n st hr ca S b) (RR n st hr S) u) : Int)) - ((z10 * q) * (rdL (sumL (lev (FF n st hr ca S b) (RR n st hr S)) u (h.toNat - u)) (lev (FF n st hr ca S b) (RR n st hr S) u) : Int))) = XU (FF n st hr ca S b) (RR n st hr S) h.toNat q u := by rw [e10]; rfl
                have ekl : (rdL (sumL (lev (FF n st hr ca S b) (RR n st hr S)) u (h.toNat - u)) (lev (FF n st hr ca S b) (RR n st hr S) u) : Int) = (KL (FF n st hr ca S b) (RR n st hr S) h.toNat u : Int) := rfl
                refine z_ldc2 (pc := 83) hx hb (100) hown (hT _ tw_508) (by decide) dX4_runIn_83 ?_
                refine lv_aload_n (pc := 86) hx hb dX4_runIn_86 rfl (lv_at hl 0 rfl) ?_
                refine va_get (D := D) (cl := vwCl) (ci := 4) (v := .long (zj ((rdU (sumL (lev (FF n st hr ca S b) (RR n st hr S)) u (h.toNat - u)) (lev (FF n st hr ca S b) (RR n st hr S) u) : Int)))) (C := RX4) (T := TX4) (N := 17) (pc := 87) hx hb hT inT4 hown hK.1 hP 0 rfl rfl 12 (by decide) (hT _ tw_349) (fun _ h9 => h9) rfl dX4_runIn_87 ?_
                refine z_lmul (pc := 90) hx hb dX4_runIn_90 ?_
                refine lv_iload (pc := 91) hx hb dX4_runIn_91 (lv_at hl 6 rfl) ?_
                refine z_i2l (pc := 93) hx hb (by omega) dX4_runIn_93 ?_
                refine lv_iload (pc := 94) hx hb dX4_runIn_94 (lv_at hl 2 rfl) ?_
                refine z_i2l (pc := 96) hx hb (by omega) dX4_runIn_96 ?_
                refine z_lmul (pc := 97) hx hb dX4_runIn_97 ?_
                refine lv_aload_n (pc := 98) hx hb dX4_runIn_98 rfl (lv_at hl 0 rfl) ?_
                refine va_get (D := D) (cl := vwCl) (ci := 4) (v := .long (zj ((rdL (sumL (lev (FF n st hr ca S b) (RR n st hr S)) u (h.toNat - u)) (lev (FF n st hr ca S b) (RR n st hr S) u) : Int)))) (C := RX4) (T := TX4) (N := 17) (pc := 99) hx hb hT inT4 hown hK.1 hP 0 rfl rfl 13 (by decide) (hT _ tw_350) (fun _ h9 => h9) rfl dX4_runIn_99 ?_
                refine z_lmul (pc := 102) hx hb dX4_runIn_102 ?_
                refine z_lsub (pc := 103) hx hb dX4_runIn_103 ?_
                refine lv_lstore (lv' := [(11, .long (zj (((100 * (rdU (sumL (lev (FF n st hr ca S b) (RR n st hr S)) u (h.toNat - u)) (lev (FF n st hr ca S b) (RR n st hr S) u) : Int)) - ((z10 * q) * (rdL (sumL (lev (FF n st hr ca S b) (RR n st hr S)) u (h.toNat - u)) (lev (FF n st hr ca S b) (RR n st hr S) u) : Int)))))), (0, .ref (ad 0)), (3, .int (zi (h))), (4, .int (zi (q))), (5, .int (zi (z5))), (6, .long (zj (z6))), (8, .long (zj (z8))), (10, .int (zi (z10)))]) (pc := 104) hx hb dX4_runIn_104 hl (by decide) rfl (fun ls hl => ?_)
                refine z_ldc2 (pc := 106) hx hb (100) hown (hT _ tw_508) (by decide) dX4_runIn_106 ?_
                refine lv_aload_n (pc := 109) hx hb dX4_runIn_109 rfl (lv_at hl 1 rfl) ?_
                refine va_get (D := D) (cl := vwCl) (ci := 4) (v := .long (zj ((rdL (sumL (lev (FF n st hr ca S b) (RR n st hr S)) u (h.toNat - u)) (lev (FF n st hr ca S b) (RR n st hr S) u) : Int)))) (C := RX4) (T := TX4) (N := 17) (pc := 110) hx hb hT inT4 hown hK.1 hP 0 rfl rfl 13 (by decide) (hT _ tw_350) (fun _ h9 => h9) rfl dX4_runIn_110 ?_
                refine z_lmul (pc := 113) hx hb dX4_runIn_113 ?_
                refine lv_lstore (lv' := [(13, .long (zj ((100 * (rdL (sumL (lev (FF n st hr ca S b) (RR n st hr S)) u (h.toNat - u)) (lev (FF n st hr ca S b) (RR n st hr S) u) : Int))))), (11, .long (zj (((100 * (rdU (sumL (lev (FF n st hr ca S b) (RR n st hr S)) u (h.toNat - u)) (lev (FF n st hr ca S b) (RR n st hr S) u) : Int)) - ((z10 * q) * (rdL (sumL (lev (FF n st hr ca S b) (RR n st hr S)) u (h.toNat - u)) (lev (FF n st hr ca S b) (RR n st hr S) u) : Int)))))), (0, .ref (ad 0)), (3, .int (zi (h))), (4, .int (zi (q))), (5, .int (zi (z5))), (6, .long (zj (z6))), (8, .long (zj (z8))), (10, .int (zi (z10)))]) (pc := 114) hx hb dX4_runIn_114 hl (by decide) rfl (fun ls hl => ?_)
                refine lv_iload (pc := 116) hx hb dX4_runIn_116 (lv_at hl 5 rfl) ?_
                refine z_if_lt (tgt := 135) (pc := 118) hx hb dX4_runIn_118 (by decide) (by omega) (fun c_11 => ?_) (fun c_11 => ?_)
                · have hset : RI (FF n st hr ca S b) (RR n st hr S) h.toNat q (u + 1) z10 ((100 * (rdU (sumL (lev (FF n st hr ca S b) (RR n st hr S)) u (h.toNat - u)) (lev (FF n st hr ca S b) (RR n st hr S) u) : Int)) - ((z10 * q) * (rdL (sumL (lev (FF n st hr ca S b) (RR n st hr S)) u (h.toNat - u)) (lev (FF n st hr ca S b) (RR n st hr S) u) : Int))) (100 * (rdL (sumL (lev (FF n st hr ca S b) (RR n st hr S)) u (h.toNat - u)) (lev (FF n st hr ca S b) (RR n st hr S) u) : Int)) := by
                    rw [exu, ekl, e10]
                    exact RI_set e1 hl0 (by first | (left; omega) | (right; rw [← exu, ← ekl]; assumption))
                  refine lv_iload (pc := 135) hx hb dX4_runIn_135 (lv_at hl 8 rfl) ?_
                  refine lv_istore (lv' := [(5, .int (zi (z10))), (13, .long (zj ((100 * (rdL (sumL (lev (FF n st hr ca S b) (RR n st hr S)) u (h.toNat - u)) (lev (FF n st hr ca S b) (RR n st hr S) u) : Int))))), (11, .long (zj (((100 * (rdU (sumL (lev (FF n st hr ca S b) (RR n st hr S)) u (h.toNat - u)) (lev (FF n st hr ca S b) (RR n st hr S) u) : Int)) - ((z10 * q) * (rdL (sumL (lev (FF n st hr ca S b) (RR n st hr S)) u (h.toNat - u)) (lev (FF n st hr ca S b) (RR n st hr S) u) : Int)))))), (0, .ref (ad 0)), (3, .int (zi (h))), (4, .int (zi (q))), (6, .long (zj (z6))), (8, .long (zj (z8))), (10, .int (zi (z10)))]) (pc := 137) hx hb dX4_runIn_137 hl (by decide) rfl (fun ls hl => ?_)
                  refine lv_lload (pc := 139) hx hb dX4_runIn_139 (lv_at hl 2 rfl) ?_
                  refine lv_lstore (lv' := [(6, .long (zj (((100 * (rdU (sumL (lev (FF n st hr ca S b) (RR n st hr S)) u (h.toNat - u)) (lev (FF n st hr ca S b) (RR n st hr S) u) : Int)) - ((z10 * q) * (rdL (sumL (lev (FF n st hr ca S b) (RR n st hr S)) u (h.toNat - u)) (lev (FF n st hr ca S b) (RR n st hr S) u) : Int)))))), (5, .int (zi (z10))), (13, .long (zj ((100 * (rdL (sumL (lev (FF n st hr ca S b) (RR n st hr S)) u (h.toNat - u)) (lev (FF n st hr ca S b) (RR n st hr S) u) : Int))))), (11, .long (zj (((100 * (rdU (sumL (lev (FF n st hr ca S b) (RR n st hr S)) u (h.toNat - u)) (lev (FF n st hr ca S b) (RR n st hr S) u) : Int)) - ((z10 * q) * (rdL (sumL (lev (FF n st hr ca S b) (RR n st hr S)) u (h.toNat - u)) (lev (FF n st hr ca S b) (RR n st hr S) u) : Int)))))), (0, .ref (ad 0)), (3, .int (zi (h))), (4, .int (zi (q))), (8, .long (zj (z8))), (10, .int (zi (z10)))]) (pc := 141) hx hb dX4_runIn_141 hl (by decide) rfl (fun ls hl => ?_)
                  refine lv_lload (pc := 143) hx hb dX4_runIn_143 (lv_at hl 2 rfl) ?_
                  refine lv_lstore (lv' := [(8, .long (zj ((100 * (rdL (sumL (lev (FF n st hr ca S b) (RR n st hr S)) u (h.toNat - u)) (lev (FF n st hr ca S b) (RR n st hr S) u) : Int))))), (6, .long (zj (((100 * (rdU (sumL (lev (FF n st hr ca S b) (RR n st hr S)) u (h.toNat - u)) (lev (FF n st hr ca S b) (RR n st hr S) u) : Int)) - ((z10 * q) * (rdL (sumL (lev (FF n st hr ca S b) (RR n st hr S)) u (h.toNat - u)) (lev (FF n st hr ca S b) (RR n st hr S) u) : Int)))))), (5, .int (zi (z10))), (13, .long (zj ((100 * (rdL (sumL (lev (FF n st hr ca S b) (RR n st hr S)) u (h.toNat - u)) (lev (FF n st hr ca S b) (RR n st hr S) u) : Int))))), (11, .long (zj (((100 * (rdU (sumL (lev (FF n st hr ca S b) (RR n st hr S)) u (h.toNat - u)) (lev (FF n st hr ca S b) (RR n st hr S) u) : Int)) - ((z10 * q) * (rdL (sumL (lev (FF n st hr ca S b) (RR n st hr S)) u (h.toNat - u)) (lev (FF n st hr ca S b) (RR n st hr S) u) : Int)))))), (0, .ref (ad 0)), (3, .int (zi (h))), (4, .int (zi (q))), (10, .int (zi (z10)))]) (pc := 145) hx hb dX4_runIn_145 hl (by decide) rfl (fun ls hl => ?_)
                  refine lv_iinc (v := zi (z10 + 1)) (lv' := [(10, .int (zi ((z10 + 1)))), (8, .long (zj ((100 * (rdL (sumL (lev (FF n st hr ca S b) (RR n st hr S)) u (h.toNat - u)) (lev (FF n st hr ca S b) (RR n st hr S) u) : Int))))), (6, .long (zj (((100 * (rdU (sumL (lev (FF n st hr ca S b) (RR n st hr S)) u (h.toNat - u)) (lev (FF n st hr ca S b) (RR n st hr S) u) : Int)) - ((z10 * q) * (rdL (sumL (lev (FF n st hr ca S b) (RR n st hr S)) u (h.toNat - u)) (lev (FF n st hr ca S b) (RR n st hr S) u) : Int)))))), (5, .int (zi (z10))), (13, .long (zj ((100 * (rdL (sumL (lev (FF n st hr ca S b) (RR n st hr S)) u (h.toNat - u)) (lev (FF n st hr ca S b) (RR n st hr S) u) : Int))))), (11, .long (zj (((100 * (rdU (sumL (lev (FF n st hr ca S b) (RR n st hr S)) u (h.toNat - u)) (lev (FF n st hr ca S b) (RR n st hr S) u) : Int)) - ((z10 * q) * (rdL (sumL (lev (FF n st hr ca S b) (RR n st hr S)) u (h.toNat - u)) (lev (FF n st hr ca S b) (RR n st hr S) u) : Int)))))), (0, .ref (ad 0)), (3, .int (zi (h))), (4, .int (zi (q)))]) (pc := 147) hx hb dX4_runIn_147 hl (k := 8) rfl (zi_add _ _) (by decide) rfl (fun ls hl => ?_)
                  refine lv_goto (tgt := 61) (pc := 150) hx hb dX4_runIn_150 (by decide) ?_
                  exact ih  _ _ _ _ _ _ _ _ _ _ (by omega) (hset) hP hD hS ls (lv_sub hl [6, 7, 8, 3, 2, 1, 0] rfl)
                · refine lv_lload (pc := 121) hx hb dX4_runIn_121 (lv_at hl 1 rfl) ?_
                  refine lv_lload (pc := 123) hx hb dX4_runIn_123 (lv_at hl 0 rfl) ?_
                  refine lv_lload (pc := 125) hx hb dX4_runIn_125 (lv_at hl 6 rfl) ?_
                  refine lv_lload (pc := 127) hx hb dX4_runIn_127 (lv_at hl 7 rfl) ?_
                  refine rd_S (pc := 129) hx hb hml hown hT hK (c_X4_isGreater D cI cJ l (((100 * (rdU (sumL (lev (FF n st hr ca S b) (RR n st hr S)) u (h.toNat - u)) (lev (FF n st hr ca S b) (RR n st hr S) u) : Int)) - ((z10 * q) * (rdL (sumL (lev (FF n st hr ca S b) (RR n st hr S)) u (h.toNat - u)) (lev (FF n st hr ca S b) (RR n st hr S) u) : Int)))) ((100 * (rdL (sumL (lev (FF n st hr ca S b) (RR n st hr S)) u (h.toNat - u)) (lev (FF n st hr ca S b) (RR n st hr S) u) : Int))) (z6) (z8) (by rw [ekl]; omega) (by rw [exu]; omega)) ca_X4_isGreater tw_509 va_Pnil ⟨Nat.le_of_ble_eq_true rfl, Nat.le_of_ble_eq_true rfl⟩ rfl hl.1 (As := [.long (zj (((100 * (rdU (sumL (lev (FF n st hr ca S b) (RR n st hr S)) u (h.toNat - u)) (lev (FF n st hr ca S b) (RR n st hr S) u) : Int)) - ((z10 * q) * (rdL (sumL (lev (FF n st hr ca S b) (RR n st hr S)) u (h.toNat - u)) (lev (FF n st hr ca S b) (RR n st hr S) u) : Int))))), .long (zj ((100 * (rdL (sumL (lev (FF n st hr ca S b) (RR n st hr S)) u (h.toNat - u)) (lev (FF n st hr ca S b) (RR n st hr S) u) : Int)))), .long (zj (z6)), .long (zj (z8))]) (rest := []) rfl (Nat.le_of_ble_eq_true rfl) ⟨Nat.le_of_ble_eq_true rfl, Nat.le_of_ble_eq_true rfl⟩ dX4_runIn_129 ?_
                  refine z_ifB_eq (tgt := 147) (pc := 132) hx hb dX4_runIn_132 (by decide) (fun c_12 => ?_) (fun c_12 => ?_)
                  · have hkeep : RI (FF n st hr ca S b) (RR n st hr S) h.toNat q (u + 1) z5 z6 z8 := by
                      first
                      | exact RI_skip hs e1 (by assumption)
                      | exact RI_keep e1 (by omega) (by rw [← exu, ← ekl]; assumption)
                    refine lv_iinc (v := zi (z10 + 1)) (lv' := [(10, .int (zi ((z10 + 1)))), (13, .long (zj ((100 * (rdL (sumL (lev (FF n st hr ca S b) (RR n st hr S)) u (h.toNat - u)) (lev (FF n st hr ca S b) (RR n st hr S) u) : Int))))), (11, .long (zj (((100 * (rdU (sumL (lev (FF n st hr ca S b) (RR n st hr S)) u (h.toNat - u)) (lev (FF n st hr ca S b) (RR n st hr S) u) : Int)) - ((z10 * q) * (rdL (sumL (lev (FF n st hr ca S b) (RR n st hr S)) u (h.toNat - u)) (lev (FF n st hr ca S b) (RR n st hr S) u) : Int)))))), (0, .ref (ad 0)), (3, .int (zi (h))), (4, .int (zi (q))), (5, .int (zi (z5))), (6, .long (zj (z6))), (8, .long (zj (z8)))]) (pc := 147) hx hb dX4_runIn_147 hl (k := 8) rfl (zi_add _ _) (by decide) rfl (fun ls hl => ?_)
                    refine lv_goto (tgt := 61) (pc := 150) hx hb dX4_runIn_150 (by decide) ?_
                    exact ih  _ _ _ _ _ _ _ _ _ _ (by omega) (hkeep) hP hD hS ls (lv_sub hl [3, 4, 5, 6, 7, 8, 0] rfl)
                  · have hset : RI (FF n st hr ca S b) (RR n st hr S) h.toNat q (u + 1) z10 ((100 * (rdU (sumL (lev (FF n st hr ca S b) (RR n st hr S)) u (h.toNat - u)) (lev (FF n st hr ca S b) (RR n st hr S) u) : Int)) - ((z10 * q) * (rdL (sumL (lev (FF n st hr ca S b) (RR n st hr S)) u (h.toNat - u)) (lev (FF n st hr ca S b) (RR n st hr S) u) : Int))) (100 * (rdL (sumL (lev (FF n st hr ca S b) (RR n st hr S)) u (h.toNat - u)) (lev (FF n st hr ca S b) (RR n st hr S) u) : Int)) := by
                      rw [exu, ekl, e10]
                      exact RI_set e1 hl0 (by first | (left; omega) | (right; rw [← exu, ← ekl]; assumption))
                    refine lv_iload (pc := 135) hx hb dX4_runIn_135 (lv_at hl 8 rfl) ?_
                    refine lv_istore (lv' := [(5, .int (zi (z10))), (13, .long (zj ((100 * (rdL (sumL (lev (FF n st hr ca S b) (RR n st hr S)) u (h.toNat - u)) (lev (FF n st hr ca S b) (RR n st hr S) u) : Int))))), (11, .long (zj (((100 * (rdU (sumL (lev (FF n st hr ca S b) (RR n st hr S)) u (h.toNat - u)) (lev (FF n st hr ca S b) (RR n st hr S) u) : Int)) - ((z10 * q) * (rdL (sumL (lev (FF n st hr ca S b) (RR n st hr S)) u (h.toNat - u)) (lev (FF n st hr ca S b) (RR n st hr S) u) : Int)))))), (0, .ref (ad 0)), (3, .int (zi (h))), (4, .int (zi (q))), (6, .long (zj (z6))), (8, .long (zj (z8))), (10, .int (zi (z10)))]) (pc := 137) hx hb dX4_runIn_137 hl (by decide) rfl (fun ls hl => ?_)
                    refine lv_lload (pc := 139) hx hb dX4_runIn_139 (lv_at hl 2 rfl) ?_
                    refine lv_lstore (lv' := [(6, .long (zj (((100 * (rdU (sumL (lev (FF n st hr ca S b) (RR n st hr S)) u (h.toNat - u)) (lev (FF n st hr ca S b) (RR n st hr S) u) : Int)) - ((z10 * q) * (rdL (sumL (lev (FF n st hr ca S b) (RR n st hr S)) u (h.toNat - u)) (lev (FF n st hr ca S b) (RR n st hr S) u) : Int)))))), (5, .int (zi (z10))), (13, .long (zj ((100 * (rdL (sumL (lev (FF n st hr ca S b) (RR n st hr S)) u (h.toNat - u)) (lev (FF n st hr ca S b) (RR n st hr S) u) : Int))))), (11, .long (zj (((100 * (rdU (sumL (lev (FF n st hr ca S b) (RR n st hr S)) u (h.toNat - u)) (lev (FF n st hr ca S b) (RR n st hr S) u) : Int)) - ((z10 * q) * (rdL (sumL (lev (FF n st hr ca S b) (RR n st hr S)) u (h.toNat - u)) (lev (FF n st hr ca S b) (RR n st hr S) u) : Int)))))), (0, .ref (ad 0)), (3, .int (zi (h))), (4, .int (zi (q))), (8, .long (zj (z8))), (10, .int (zi (z10)))]) (pc := 141) hx hb dX4_runIn_141 hl (by decide) rfl (fun ls hl => ?_)
                    refine lv_lload (pc := 143) hx hb dX4_runIn_143 (lv_at hl 2 rfl) ?_
                    refine lv_lstore (lv' := [(8, .long (zj ((100 * (rdL (sumL (lev (FF n st hr ca S b) (RR n st hr S)) u (h.toNat - u)) (lev (FF n st hr ca S b) (RR n st hr S) u) : Int))))), (6, .long (zj (((100 * (rdU (sumL (lev (FF n st hr ca S b) (RR n st hr S)) u (h.toNat - u)) (lev (FF n st hr ca S b) (RR n st hr S) u) : Int)) - ((z10 * q) * (rdL (sumL (lev (FF n st hr ca S b) (RR n st hr S)) u (h.toNat - u)) (lev (FF n st hr ca S b) (RR n st hr S) u) : Int)))))), (5, .int (zi (z10))), (13, .long (zj ((100 * (rdL (sumL (lev (FF n st hr ca S b) (RR n st hr S)) u (h.toNat - u)) (lev (FF n st hr ca S b) (RR n st hr S) u) : Int))))), (11, .long (zj (((100 * (rdU (sumL (lev (FF n st hr ca S b) (RR n st hr S)) u (h.toNat - u)) (lev (FF n st hr ca S b) (RR n st hr S) u) : Int)) - ((z10 * q) * (rdL (sumL (lev (FF n st hr ca S b) (RR n st hr S)) u (h.toNat - u)) (lev (FF n st hr ca S b) (RR n st hr S) u) : Int)))))), (0, .ref (ad 0)), (3, .int (zi (h))), (4, .int (zi (q))), (10, .int (zi (z10)))]) (pc := 145) hx hb dX4_runIn_145 hl (by decide) rfl (fun ls hl => ?_)
                    refine lv_iinc (v := zi (z10 + 1)) (lv' := [(10, .int (zi ((z10 + 1)))), (8, .long (zj ((100 * (rdL (sumL (lev (FF n st hr ca S b) (RR n st hr S)) u (h.toNat - u)) (lev (FF n st hr ca S b) (RR n st hr S) u) : Int))))), (6, .long (zj (((100 * (rdU (sumL (lev (FF n st hr ca S b) (RR n st hr S)) u (h.toNat - u)) (lev (FF n st hr ca S b) (RR n st hr S) u) : Int)) - ((z10 * q) * (rdL (sumL (lev (FF n st hr ca S b) (RR n st hr S)) u (h.toNat - u)) (lev (FF n st hr ca S b) (RR n st hr S) u) : Int)))))), (5, .int (zi (z10))), (13, .long (zj ((100 * (rdL (sumL (lev (FF n st hr ca S b) (RR n st hr S)) u (h.toNat - u)) (lev (FF n st hr ca S b) (RR n st hr S) u) : Int))))), (11, .long (zj (((100 * (rdU (sumL (lev (FF n st hr ca S b) (RR n st hr S)) u (h.toNat - u)) (lev (FF n st hr ca S b) (RR n st hr S) u) : Int)) - ((z10 * q) * (rdL (sumL (lev (FF n st hr ca S b) (RR n st hr S)) u (h.toNat - u)) (lev (FF n st hr ca S b) (RR n st hr S) u) : Int)))))), (0, .ref (ad 0)), (3, .int (zi (h))), (4, .int (zi (q)))]) (pc := 147) hx hb dX4_runIn_147 hl (k := 8) rfl (zi_add _ _) (by decide) rfl (fun ls hl => ?_)
                    refine lv_goto (tgt := 61) (pc := 150) hx hb dX4_runIn_150 (by decide) ?_
                    exact ih  _ _ _ _ _ _ _ _ _ _ (by omega) (hset) hP hD hS ls (lv_sub hl [6, 7, 8, 3, 2, 1, 0] rfl)
          refine z_iconst (pc := 49) hx hb dX4_runIn_49 ?_
          refine lv_istore (lv' := [(5, .int (zi (-1))), (0, .ref (ad 0)), (1, .int (zi (S))), (2, .int (zi (b))), (3, .int (zi (h))), (4, .int (zi (q)))]) (pc := 50) hx hb dX4_runIn_50 hl (by decide) rfl (fun ls hl => ?_)
          refine z_lconst0 (pc := 52) hx hb dX4_runIn_52 ?_
          refine lv_lstore (lv' := [(6, .long (zj (0))), (5, .int (zi (-1))), (0, .ref (ad 0)), (1, .int (zi (S))), (2, .int (zi (b))), (3, .int (zi (h))), (4, .int (zi (q)))]) (pc := 53) hx hb dX4_runIn_53 hl (by decide) rfl (fun ls hl => ?_)
          refine z_lconst1 (pc := 55) hx hb dX4_runIn_55 ?_
          refine lv_lstore (lv' := [(8, .long (zj (1))), (6, .long (zj (0))), (5, .int (zi (-1))), (0, .ref (ad 0)), (1, .int (zi (S))), (2, .int (zi (b))), (3, .int (zi (h))), (4, .int (zi (q)))]) (pc := 56) hx hb dX4_runIn_56 hl (by decide) rfl (fun ls hl => ?_)
          refine z_iconst (pc := 58) hx hb dX4_runIn_58 ?_
          refine lv_istore (lv' := [(10, .int (zi (0))), (8, .long (zj (1))), (6, .long (zj (0))), (5, .int (zi (-1))), (0, .ref (ad 0)), (1, .int (zi (S))), (2, .int (zi (b))), (3, .int (zi (h))), (4, .int (zi (q)))]) (pc := 59) hx hb dX4_runIn_59 hl (by decide) rfl (fun ls hl => ?_)
          exact loop 0 (by omega) _ _ _ _ _ _ _ _ _ _ (by rfl) (Or.inl ⟨rfl, rfl⟩) hP hD hS ls (lv_sub hl [4, 7, 8, 3, 2, 1, 0] rfl)
        · refine z_sipush (pc := 39) hx hb dX4_runIn_39 (by decide) ?_
          exact wr_iret hx hb hrt hlk dX4_runIn_42 hP hS (⟨by rw [runInV, if_neg (by omega)], lu, ll, up, lo, fr, rr, rfl⟩)
