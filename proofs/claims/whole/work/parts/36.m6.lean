set_option maxHeartbeats 4000000 in
set_option maxRecDepth 100000 in
theorem c_X4_findRest (D : va_G) (cI cJ : ClassId) (l : Launch) (ad : Nat → Nat) (n : Int) (st hr ca sp : Nat → Int) (k : Int) (ts th : Nat → Int) (pr hc lu ll up lo : Int) (fr rr hv : Nat → Int) (F R : Nat → Nat) (hs : STd F R) (hRW : HRW F R fr rr) (x y : Int) (B E : Nat) (hx0 : x = (B : Int)) (hy0 : y = (E : Int)) (hB0 : 0 < lev F R B) (hBE : B ≤ E ∧ E ≤ 500) : WV D cI cJ l yX4_findRest cX4_findRest 4 2 54 [.ref (ad 0), .int (zi (x)), .int (zi (y))] (wM ad cI n st hr ca sp k ts th pr hc lu ll up lo fr rr hv) (fun ws' => ∃ lu' ll' : Int, ws' = (wM ad cI n st hr ca sp k ts th pr hc lu' ll' ((rdU (sumL (lev F R) B (E - B)) (lev F R B) : Int)) ((rdL (sumL (lev F R) B (E - B)) (lev F R B) : Int)) fr rr hv)) := by
  subst hx0
  subst hy0
  refine WV.of (by decide) (Nat.le_of_ble_eq_true rfl) ?_
  intro p e s m args below meth c hx hb hrt hml hown hT hlk hK hP hD hS ls hl
  replace hl : lv_has ls 4 [(0, .ref (ad 0)), (1, .int (zi ((B : Int)))), (2, .int (zi ((E : Int))))] := hl
  have loop : ∀ u : Nat, u ≤ (E - B) → ∀ (z3 zu zl zp zo : Int), ∀ (H : Heap) (locs : List Loc), (z3 = (B : Int) + (u : Int)) → (zu = (rdU (lev F R (B + (u - 1))) (lev F R B) : Int)) → (zl = (rdL (lev F R (B + (u - 1))) (lev F R B) : Int)) → (zp = (rdU (sumL (lev F R) B u) (lev F R B) : Int)) → (zo = (rdL (sumL (lev F R) B u) (lev F R B) : Int)) → va_P D vwCl (wM ad cI n st hr ca sp k ts th pr hc zu zl zp zo fr rr hv) H → va_D (inW (wM ad cI n st hr ca sp k ts th pr hc lu ll up lo fr rr hv)) (wM ad cI n st hr ca sp k ts th pr hc zu zl zp zo fr rr hv) → va_S (inW (wM ad cI n st hr ca sp k ts th pr hc lu ll up lo fr rr hv)) s.heap H locs → ∀ ls : Array Slot, lv_has ls 4 [(0, .ref (ad 0)), (1, .int (zi ((B : Int)))), (2, .int (zi ((E : Int)))), (3, .int (zi (z3)))] → W p l e (RM 2 54) s m args below meth c H locs 0 0 (MQ below (QV D (wM ad cI n st hr ca sp k ts th pr hc lu ll up lo fr rr hv) (fun ws' => ∃ lu' ll' : Int, ws' = (wM ad cI n st hr ca sp k ts th pr hc lu' ll' ((rdU (sumL (lev F R) B (E - B)) (lev F R B) : Int)) ((rdL (sumL (lev F R) B (E - B)) (lev F R B) : Int)) fr rr hv))) args s 0 0 (inW (wM ad cI n st hr ca sp k ts th pr hc lu ll up lo fr rr hv))) (F0 m 22 ls []) := by
    refine lp_up (fun u => ∀ (z3 zu zl zp zo : Int), ∀ (H : Heap) (locs : List Loc), (z3 = (B : Int) + (u : Int)) → (zu = (rdU (lev F R (B + (u - 1))) (lev F R B) : Int)) → (zl = (rdL (lev F R (B + (u - 1))) (lev F R B) : Int)) → (zp = (rdU (sumL (lev F R) B u) (lev F R B) : Int)) → (zo = (rdL (sumL (lev F R) B u) (lev F R B) : Int)) → va_P D vwCl (wM ad cI n st hr ca sp k ts th pr hc zu zl zp zo fr rr hv) H → va_D (inW (wM ad cI n st hr ca sp k ts th pr hc lu ll up lo fr rr hv)) (wM ad cI n st hr ca sp k ts th pr hc zu zl zp zo fr rr hv) → va_S (inW (wM ad cI n st hr ca sp k ts th pr hc lu ll up lo fr rr hv)) s.heap H locs → ∀ ls : Array Slot, lv_has ls 4 [(0, .ref (ad 0)), (1, .int (zi ((B : Int)))), (2, .int (zi ((E : Int)))), (3, .int (zi (z3)))] → W p l e (RM 2 54) s m args below meth c H locs 0 0 (MQ below (QV D (wM ad cI n st hr ca sp k ts th pr hc lu ll up lo fr rr hv) (fun ws' => ∃ lu' ll' : Int, ws' = (wM ad cI n st hr ca sp k ts th pr hc lu' ll' ((rdU (sumL (lev F R) B (E - B)) (lev F R B) : Int)) ((rdL (sumL (lev F R) B (E - B)) (lev F R B) : Int)) fr rr hv))) args s 0 0 (inW (wM ad cI n st hr ca sp k ts th pr hc lu ll up lo fr rr hv))) (F0 m 22 ls [])) ((E - B)) ?_ ?_
    · intro z3 zu zl zp zo H locs e3 eu el ep eo hP hD hS ls hl
      refine lv_iload_n (pc := 22) hx hb dX4_findRest_22 rfl (lv_at hl 3 rfl) ?_
      refine lv_iload_n (pc := 23) hx hb dX4_findRest_23 rfl (lv_at hl 2 rfl) ?_
      refine z_icmp_ge (tgt := 47) (pc := 24) hx hb dX4_findRest_24 (by decide) (by omega) (by omega) (fun c_1 => ?_) (fun c_1 => absurd c_1 (by omega))
      exact wv_ret hx hb hrt hlk dX4_findRest_47 hP hS (⟨_, _, by rw [ep, eo]⟩)
    · intro u hu ih z3 zu zl zp zo H locs e3 eu el ep eo hP hD hS ls hl
      have hS5 : sumL (lev F R) B u ≤ 500 * lev F R B := by
        have h1 : sumL (lev F R) B u ≤ lev F R B * u := sumL_le u (fun x h1 h2 => lev_mono hs h1 (by omega))
        have h2 : lev F R B * u ≤ lev F R B * 500 := Nat.mul_le_mul_left _ (by omega)
        omega
      have hL1 : lev F R (B + u) ≤ 1 * lev F R B := by rw [Nat.one_mul]; exact lev_mono hs (by omega) (by omega)
      refine lv_iload_n (pc := 22) hx hb dX4_findRest_22 rfl (lv_at hl 3 rfl) ?_
      refine lv_iload_n (pc := 23) hx hb dX4_findRest_23 rfl (lv_at hl 2 rfl) ?_
      refine z_icmp_ge (tgt := 47) (pc := 24) hx hb dX4_findRest_24 (by decide) (by omega) (by omega) (fun c_2 => absurd c_2 (by omega)) (fun c_2 => ?_)
      refine lv_iload_n (pc := 27) hx hb dX4_findRest_27 rfl (lv_at hl 3 rfl) ?_
      refine lv_iload_n (pc := 28) hx hb dX4_findRest_28 rfl (lv_at hl 1 rfl) ?_
      refine z_icmp_le (tgt := 37) (pc := 29) hx hb dX4_findRest_29 (by decide) (by omega) (by omega) (fun c_3 => ?_) (fun c_3 => ?_)
      · refine lv_aload_n (pc := 37) hx hb dX4_findRest_37 rfl (lv_at hl 0 rfl) ?_
        refine wv_V (pc := 38) hx hb hml hown hT hK (c_X4_add D cI cJ l ad n st hr ca sp k ts th pr hc zu zl zp zo fr rr hv (sumL (lev F R) B u) (lev F R (B + u)) (lev F R B) hB0 ⟨low_sum hs (by omega) hB0, low_left hs (by omega) (by omega) hB0⟩ ⟨hS5, hL1⟩ ep eo (by first | rfl | rw [eu, show B + (u - 1) = B + u by omega]) (by first | rfl | rw [el, show B + (u - 1) = B + u by omega])) ca_X4_add tw_491 hP hD hS (fun q h => inW_same (by rfl) h) 0 4 rfl rfl rfl ⟨Nat.le_of_ble_eq_true rfl, Nat.le_of_ble_eq_true rfl⟩ rfl hl.1 (As := []) (rest := []) rfl (Nat.le_of_ble_eq_true rfl) ⟨Nat.le_of_ble_eq_true rfl, Nat.le_of_ble_eq_true rfl⟩ dX4_findRest_38 (fun ws_ H locs hΦ hP hz_ hk_ hS => ?_)
        subst hΦ
        replace hP : va_P D vwCl (wM ad cI n st hr ca sp k ts th pr hc zu zl ((rdU ((sumL (lev F R) B u) + (lev F R (B + u))) (lev F R B) : Int)) ((rdL ((sumL (lev F R) B u) + (lev F R (B + u))) (lev F R B) : Int)) fr rr hv) H := hP
        replace hD : va_D (inW (wM ad cI n st hr ca sp k ts th pr hc lu ll up lo fr rr hv)) (wM ad cI n st hr ca sp k ts th pr hc zu zl ((rdU ((sumL (lev F R) B u) + (lev F R (B + u))) (lev F R B) : Int)) ((rdL ((sumL (lev F R) B u) + (lev F R (B + u))) (lev F R B) : Int)) fr rr hv) := hD.same rfl
        refine lv_iinc (v := zi (z3 + 1)) (lv' := [(3, .int (zi ((z3 + 1)))), (0, .ref (ad 0)), (1, .int (zi ((B : Int)))), (2, .int (zi ((E : Int))))]) (pc := 41) hx hb dX4_findRest_41 hl (k := 3) rfl (zi_add _ _) (by decide) rfl (fun ls hl => ?_)
        refine lv_goto (tgt := 22) (pc := 44) hx hb dX4_findRest_44 (by decide) ?_
        exact ih  _ _ _ _ _ _ _ (by omega) (by first | (rw [Nat.add_sub_cancel]; done) | (rw [eu, Nat.add_sub_cancel, show B + (u - 1) = B + u by omega]; done)) (by first | (rw [Nat.add_sub_cancel]; done) | (rw [el, Nat.add_sub_cancel, show B + (u - 1) = B + u by omega]; done)) (by rfl) (by rfl) hP hD hS ls (lv_sub hl [1, 2, 3, 0] rfl)
      · refine lv_aload_n (pc := 32) hx hb dX4_findRest_32 rfl (lv_at hl 0 rfl) ?_
        refine lv_iload_n (pc := 33) hx hb dX4_findRest_33 rfl (lv_at hl 3 rfl) ?_
        refine wv_V (pc := 34) hx hb hml hown hT hK (c_X4_goOn D cI cJ l ad n st hr ca sp k ts th pr hc zu zl zp zo fr rr hv F R hs hRW (z3) B (B + (u - 1)) (B + u) (by omega) hB0 (by omega) (by omega) (Or.inl (by omega)) eu el) ca_X4_goOn tw_467 hP hD hS (fun q h => inW_same (by rfl) h) 0 4 rfl rfl rfl ⟨Nat.le_of_ble_eq_true rfl, Nat.le_of_ble_eq_true rfl⟩ rfl hl.1 (As := [.int (zi (z3))]) (rest := []) rfl (Nat.le_of_ble_eq_true rfl) ⟨Nat.le_of_ble_eq_true rfl, Nat.le_of_ble_eq_true rfl⟩ dX4_findRest_34 (fun ws_ H locs hΦ hP hz_ hk_ hS => ?_)
        subst hΦ
        replace hP : va_P D vwCl (wM ad cI n st hr ca sp k ts th pr hc ((rdU (lev F R (B + u)) (lev F R B) : Int)) ((rdL (lev F R (B + u)) (lev F R B) : Int)) zp zo fr rr hv) H := hP
        replace hD : va_D (inW (wM ad cI n st hr ca sp k ts th pr hc lu ll up lo fr rr hv)) (wM ad cI n st hr ca sp k ts th pr hc ((rdU (lev F R (B + u)) (lev F R B) : Int)) ((rdL (lev F R (B + u)) (lev F R B) : Int)) zp zo fr rr hv) := hD.same rfl
        refine lv_aload_n (pc := 37) hx hb dX4_findRest_37 rfl (lv_at hl 0 rfl) ?_
        refine wv_V (pc := 38) hx hb hml hown hT hK (c_X4_add D cI cJ l ad n st hr ca sp k ts th pr hc ((rdU (lev F R (B + u)) (lev F R B) : Int)) ((rdL (lev F R (B + u)) (lev F R B) : Int)) zp zo fr rr hv (sumL (lev F R) B u) (lev F R (B + u)) (lev F R B) hB0 ⟨low_sum hs (by omega) hB0, low_left hs (by omega) (by omega) hB0⟩ ⟨hS5, hL1⟩ ep eo (by first | rfl | rw [eu, show B + (u - 1) = B + u by omega]) (by first | rfl | rw [el, show B + (u - 1) = B + u by omega])) ca_X4_add tw_491 hP hD hS (fun q h => inW_same (by rfl) h) 0 4 rfl rfl rfl ⟨Nat.le_of_ble_eq_true rfl, Nat.le_of_ble_eq_true rfl⟩ rfl hl.1 (As := []) (rest := []) rfl (Nat.le_of_ble_eq_true rfl) ⟨Nat.le_of_ble_eq_true rfl, Nat.le_of_ble_eq_true rfl⟩ dX4_findRest_38 (fun ws_ H locs hΦ hP hz_ hk_ hS => ?_)
        subst hΦ
        replace hP : va_P D vwCl (wM ad cI n st hr ca sp k ts th pr hc ((rdU (lev F R (B + u)) (lev F R B) : Int)) ((rdL (lev F R (B + u)) (lev F R B) : Int)) ((rdU ((sumL (lev F R) B u) + (lev F R (B + u))) (lev F R B) : Int)) ((rdL ((sumL (lev F R) B u) + (lev F R (B + u))) (lev F R B) : Int)) fr rr hv) H := hP
        replace hD : va_D (inW (wM ad cI n st hr ca sp k ts th pr hc lu ll up lo fr rr hv)) (wM ad cI n st hr ca sp k ts th pr hc ((rdU (lev F R (B + u)) (lev F R B) : Int)) ((rdL (lev F R (B + u)) (lev F R B) : Int)) ((rdU ((sumL (lev F R) B u) + (lev F R (B + u))) (lev F R B) : Int)) ((rdL ((sumL (lev F R) B u) + (lev F R (B + u))) (lev F R B) : Int)) fr rr hv) := hD.same rfl
        refine lv_iinc (v := zi (z3 + 1)) (lv' := [(3, .int (zi ((z3 + 1)))), (0, .ref (ad 0)), (1, .int (zi ((B : Int)))), (2, .int (zi ((E : Int))))]) (pc := 41) hx hb dX4_findRest_41 hl (k := 3) rfl (zi_add _ _) (by decide) rfl (fun ls hl => ?_)
        refine lv_goto (tgt := 22) (pc := 44) hx hb dX4_findRest_44 (by decide) ?_
        exact ih  _ _ _ _ _ _ _ (by omega) (by first | (rw [Nat.add_sub_cancel]; done) | (rw [eu, Nat.add_sub_cancel, show B + (u - 1) = B + u by omega]; done)) (by first | (rw [Nat.add_sub_cancel]; done) | (rw [el, Nat.add_sub_cancel, show B + (u - 1) = B + u by omega]; done)) (by rfl) (by rfl) hP hD hS ls (lv_sub hl [1, 2, 3, 0] rfl)
  refine lv_aload_n (pc := 0) hx hb dX4_findRest_0 rfl (lv_at hl 0 rfl) ?_
  refine z_lconst0 (pc := 1) hx hb dX4_findRest_1 ?_
  refine va_put (D := D) (cl := vwCl) (ci := 4) (v := .long (zj (0))) (ty := .long) (C := RX4) (T := TX4) (N := 17) (pc := 2) hx hb hT inT4 tyX4 tyX4_ok nmX4 hown hK.1 hP hD hS 0 rfl rfl 12 (by decide) (hT _ tw_349) (fun _ h9 => h9) rfl (by decide +kernel) rfl rfl (Nat.le_of_ble_eq_true rfl) dX4_findRest_2 (fun H locs hP hD hS => ?_)
  replace hP : va_P D vwCl (wM ad cI n st hr ca sp k ts th pr hc lu ll 0 lo fr rr hv) H := hP
  replace hD : va_D (inW (wM ad cI n st hr ca sp k ts th pr hc lu ll up lo fr rr hv)) (wM ad cI n st hr ca sp k ts th pr hc lu ll 0 lo fr rr hv) := hD
  refine lv_aload_n (pc := 5) hx hb dX4_findRest_5 rfl (lv_at hl 0 rfl) ?_
  refine z_lconst1 (pc := 6) hx hb dX4_findRest_6 ?_
  refine va_put (D := D) (cl := vwCl) (ci := 4) (v := .long (zj (1))) (ty := .long) (C := RX4) (T := TX4) (N := 17) (pc := 7) hx hb hT inT4 tyX4 tyX4_ok nmX4 hown hK.1 hP hD hS 0 rfl rfl 13 (by decide) (hT _ tw_350) (fun _ h9 => h9) rfl (by decide +kernel) rfl rfl (Nat.le_of_ble_eq_true rfl) dX4_findRest_7 (fun H locs hP hD hS => ?_)
  replace hP : va_P D vwCl (wM ad cI n st hr ca sp k ts th pr hc lu ll 0 1 fr rr hv) H := hP
  replace hD : va_D (inW (wM ad cI n st hr ca sp k ts th pr hc lu ll up lo fr rr hv)) (wM ad cI n st hr ca sp k ts th pr hc lu ll 0 1 fr rr hv) := hD
  refine lv_aload_n (pc := 10) hx hb dX4_findRest_10 rfl (lv_at hl 0 rfl) ?_
  refine z_lconst1 (pc := 11) hx hb dX4_findRest_11 ?_
  refine va_put (D := D) (cl := vwCl) (ci := 4) (v := .long (zj (1))) (ty := .long) (C := RX4) (T := TX4) (N := 17) (pc := 12) hx hb hT inT4 tyX4 tyX4_ok nmX4 hown hK.1 hP hD hS 0 rfl rfl 10 (by decide) (hT _ tw_347) (fun _ h9 => h9) rfl (by decide +kernel) rfl rfl (Nat.le_of_ble_eq_true rfl) dX4_findRest_12 (fun H locs hP hD hS => ?_)
  replace hP : va_P D vwCl (wM ad cI n st hr ca sp k ts th pr hc 1 ll 0 1 fr rr hv) H := hP
  replace hD : va_D (inW (wM ad cI n st hr ca sp k ts th pr hc lu ll up lo fr rr hv)) (wM ad cI n st hr ca sp k ts th pr hc 1 ll 0 1 fr rr hv) := hD
  refine lv_aload_n (pc := 15) hx hb dX4_findRest_15 rfl (lv_at hl 0 rfl) ?_
  refine z_lconst1 (pc := 16) hx hb dX4_findRest_16 ?_
  refine va_put (D := D) (cl := vwCl) (ci := 4) (v := .long (zj (1))) (ty := .long) (C := RX4) (T := TX4) (N := 17) (pc := 17) hx hb hT inT4 tyX4 tyX4_ok nmX4 hown hK.1 hP hD hS 0 rfl rfl 11 (by decide) (hT _ tw_348) (fun _ h9 => h9) rfl (by decide +kernel) rfl rfl (Nat.le_of_ble_eq_true rfl) dX4_findRest_17 (fun H locs hP hD hS => ?_)
  replace hP : va_P D vwCl (wM ad cI n st hr ca sp k ts th pr hc 1 1 0 1 fr rr hv) H := hP
  replace hD : va_D (inW (wM ad cI n st hr ca sp k ts th pr hc lu ll up lo fr rr hv)) (wM ad cI n st hr ca sp k ts th pr hc 1 1 0 1 fr rr hv) := hD
  refine lv_iload_n (pc := 20) hx hb dX4_findRest_20 rfl (lv_at hl 1 rfl) ?_
  refine lv_istore_n (lv' := [(3, .int (zi ((B : Int)))), (0, .ref (ad 0)), (1, .int (zi ((B : Int)))), (2, .int (zi ((E : Int))))]) (pc := 21) hx hb dX4_findRest_21 rfl hl (by decide) rfl (fun ls hl => ?_)
  exact loop 0 (by omega) _ _ _ _ _ _ _ (by omega) (by rw [show B + (0 - 1) = B from rfl, (rd_self hB0).1]; rfl) (by rw [show B + (0 - 1) = B from rfl, (rd_self hB0).2]; rfl) (by rw [show sumL (lev F R) B 0 = 0 from rfl, (rd_nil hB0).1]; rfl) (by rw [show sumL (lev F R) B 0 = 0 from rfl, (rd_nil hB0).2]; rfl) hP hD hS ls (lv_sub hl [1, 2, 3, 0] rfl)

set_option maxHeartbeats 4000000 in
set_option maxRecDepth 100000 in
theorem c_X4_isLeftAt (D : va_G) (cI cJ : ClassId) (l : Launch) (ad : Nat → Nat) (n : Int) (st hr ca sp : Nat → Int) (k : Int) (ts th : Nat → Int) (pr hc lu ll up lo : Int) (fr rr hv : Nat → Int) (F R : Nat → Nat) (hs : STd F R) (hRW : HRW F R fr rr) (z : Int) (t : Nat) (hz : z = (t : Int)) (ht : t ≤ 500) : WR D cI cJ l yX4_isLeftAt cX4_isLeftAt 2 (some .boolean) 3 76 [.ref (ad 0), .int (zi (z))] (wM ad cI n st hr ca sp k ts th pr hc lu ll up lo fr rr hv) (fun v' ws' => v' = .int (bI (0 < lev F R t)) ∧ ∃ lu' ll' : Int, ws' = (wM ad cI n st hr ca sp k ts th pr hc lu' ll' up lo fr rr hv)) := by
  subst hz
  refine WR.of (by decide) (Nat.le_of_ble_eq_true rfl) ?_
  intro p e s m args below meth c hx hb hrt hml hown hT hlk hK hP hD hS ls hl
  replace hl : lv_has ls 2 [(0, .ref (ad 0)), (1, .int (zi ((t : Int))))] := hl
  have h0 := (lev_0 hs).1
  have hrl := rd_le (k := 1) h0 (show lev F R t ≤ 1 * lev F R 0 by rw [Nat.one_mul]; exact lev_mono hs (Nat.zero_le t) ht)
  have hrb := low_left hs (Nat.zero_le t) ht h0
  refine lv_aload_n (pc := 0) hx hb dX4_isLeftAt_0 rfl (lv_at hl 0 rfl) ?_
  refine lv_iload_n (pc := 1) hx hb dX4_isLeftAt_1 rfl (lv_at hl 1 rfl) ?_
  refine wv_V (pc := 2) hx hb hml hown hT hK (c_X4_findLeft D cI cJ l ad n st hr ca sp k ts th pr hc lu ll up lo fr rr hv F R hs hRW ((t : Int)) t (by omega) (by omega)) ca_X4_findLeft tw_463 hP hD hS (fun q h => inW_same (by rfl) h) 0 4 rfl rfl rfl ⟨Nat.le_of_ble_eq_true rfl, Nat.le_of_ble_eq_true rfl⟩ rfl hl.1 (As := [.int (zi ((t : Int)))]) (rest := []) rfl (Nat.le_of_ble_eq_true rfl) ⟨Nat.le_of_ble_eq_true rfl, Nat.le_of_ble_eq_true rfl⟩ dX4_isLeftAt_2 (fun ws_ H locs hΦ hP hz_ hk_ hS => ?_)
  subst hΦ
  replace hP : va_P D vwCl (wM ad cI n st hr ca sp k ts th pr hc ((rdU (lev F R t) (lev F R 0) : Int)) ((rdL (lev F R t) (lev F R 0) : Int)) up lo fr rr hv) H := hP
  replace hD : va_D (inW (wM ad cI n st hr ca sp k ts th pr hc lu ll up lo fr rr hv)) (wM ad cI n st hr ca sp k ts th pr hc ((rdU (lev F R t) (lev F R 0) : Int)) ((rdL (lev F R t) (lev F R 0) : Int)) up lo fr rr hv) := hD.same rfl
  refine lv_aload_n (pc := 5) hx hb dX4_isLeftAt_5 rfl (lv_at hl 0 rfl) ?_
  refine va_get (D := D) (cl := vwCl) (ci := 4) (v := .long (zj ((rdU (lev F R t) (lev F R 0) : Int)))) (C := RX4) (T := TX4) (N := 17) (pc := 6) hx hb hT inT4 hown hK.1 hP 0 rfl rfl 10 (by decide) (hT _ tw_347) (fun _ h9 => h9) rfl dX4_isLeftAt_6 ?_
  refine z_lconst0 (pc := 9) hx hb dX4_isLeftAt_9 ?_
  refine z_lcmp_le (tgt := 18) (pc := 10) hx hb dX4_isLeftAt_10 dX4_isLeftAt_11 (by decide) (by omega) (by omega) (fun c_1 => ?_) (fun c_1 => ?_)
  · refine z_iconst (pc := 18) hx hb dX4_isLeftAt_18 ?_
    exact wr_zret (φ := 0 < lev F R t) hx hb hrt hlk dX4_isLeftAt_19 (bI0 (fun h => absurd ((rdU_pos h0).mpr h) (by omega))) hP hS ⟨rfl, _, _, rfl⟩
  · refine z_iconst (pc := 14) hx hb dX4_isLeftAt_14 ?_
    refine lv_goto (tgt := 19) (pc := 15) hx hb dX4_isLeftAt_15 (by decide) ?_
    exact wr_zret (φ := 0 < lev F R t) hx hb hrt hlk dX4_isLeftAt_19 (bI1 ((rdU_pos h0).mp (by omega))) hP hS ⟨rfl, _, _, rfl⟩

theorem rem_rng {a b : Int} (hb : 0 < b) : 0 ≤ a - a / b * b ∧ a - a / b * b < b := by
  have h1 := Int.mul_ediv_add_emod a b
  have h2 := Int.emod_nonneg a (show b ≠ 0 by omega)
  have h3 := Int.emod_lt_of_pos a hb
  rw [Int.mul_comm (a / b) b]; omega

set_option maxHeartbeats 4000000 in
set_option maxRecDepth 100000 in
theorem c_X4_isGreater (D : va_G) (cI cJ : ClassId) (l : Launch)  (a b c_ d : Int) (hq : 0 < b ∧ b ≤ 59904000 ∧ 0 < d ∧ d ≤ 59904000) (h2 : (-29952000000 ≤ a ∧ a ≤ 29952000000) ∧ (-29952000000 ≤ c_ ∧ c_ ≤ 29952000000)) : RD D cI cJ l yX4_isGreater cX4_isGreater 12 (some .boolean) 0 0 [.long (zj (a)), .long (zj (b)), .long (zj (c_)), .long (zj (d))] [] (.int (bI (c_ * b < a * d))) := by
  refine RD.of (by decide) (Nat.le_of_ble_eq_true rfl) ?_
  intro p e s m args below meth c hx hb hrt hml hown hT hlk hK hP ls hl
  replace hl : lv_has ls 12 [(0, .long (zj (a))), (2, .long (zj (b))), (4, .long (zj (c_))), (6, .long (zj (d)))] := hl
  refine lv_lload_n (pc := 0) hx hb dX4_isGreater_0 rfl (lv_at hl 0 rfl) ?_
  refine z_lconst0 (pc := 1) hx hb dX4_isGreater_1 ?_
  refine z_lcmp_lt (tgt := 12) (pc := 2) hx hb dX4_isGreater_2 dX4_isGreater_3 (by decide) (by omega) (by omega) (fun c_1 => ?_) (fun c_1 => ?_)
  · have hd_a : 0 ≤ (((-a) + b) - 1) / b ∧ (((-a) + b) - 1) / b ≤ (((-a) + b) - 1) := ⟨Int.ediv_nonneg (by omega) (by omega), Int.ediv_le_self _ (by omega)⟩
    refine lv_lload_n (pc := 12) hx hb dX4_isGreater_12 rfl (lv_at hl 0 rfl) ?_
    refine z_lneg (pc := 13) hx hb dX4_isGreater_13 ?_
    refine lv_lload_n (pc := 14) hx hb dX4_isGreater_14 rfl (lv_at hl 1 rfl) ?_
    refine z_ladd (pc := 15) hx hb dX4_isGreater_15 ?_
    refine z_lconst1 (pc := 16) hx hb dX4_isGreater_16 ?_
    refine z_lsub (pc := 17) hx hb dX4_isGreater_17 ?_
    refine lv_lload_n (pc := 18) hx hb dX4_isGreater_18 rfl (lv_at hl 1 rfl) ?_
    refine z_ldiv (pc := 19) hx hb (by omega) dX4_isGreater_19 ?_
    refine z_lneg (pc := 20) hx hb dX4_isGreater_20 ?_
    refine lv_lstore (lv' := [(8, .long (zj ((-((((-a) + b) - 1) / b))))), (0, .long (zj (a))), (2, .long (zj (b))), (4, .long (zj (c_))), (6, .long (zj (d)))]) (pc := 21) hx hb dX4_isGreater_21 hl (by decide) rfl (fun ls hl => ?_)
    refine lv_lload (pc := 23) hx hb dX4_isGreater_23 (lv_at hl 3 rfl) ?_
    refine z_lconst0 (pc := 25) hx hb dX4_isGreater_25 ?_
    refine z_lcmp_lt (tgt := 38) (pc := 26) hx hb dX4_isGreater_26 dX4_isGreater_27 (by decide) (by omega) (by omega) (fun c_2 => ?_) (fun c_2 => ?_)
    · have hd_c : 0 ≤ (((-c_) + d) - 1) / d ∧ (((-c_) + d) - 1) / d ≤ (((-c_) + d) - 1) := ⟨Int.ediv_nonneg (by omega) (by omega), Int.ediv_le_self _ (by omega)⟩
      refine lv_lload (pc := 38) hx hb dX4_isGreater_38 (lv_at hl 3 rfl) ?_
      refine z_lneg (pc := 40) hx hb dX4_isGreater_40 ?_
      refine lv_lload (pc := 41) hx hb dX4_isGreater_41 (lv_at hl 4 rfl) ?_
      refine z_ladd (pc := 43) hx hb dX4_isGreater_43 ?_
      refine z_lconst1 (pc := 44) hx hb dX4_isGreater_44 ?_
      refine z_lsub (pc := 45) hx hb dX4_isGreater_45 ?_
      refine lv_lload (pc := 46) hx hb dX4_isGreater_46 (lv_at hl 4 rfl) ?_
      refine z_ldiv (pc := 48) hx hb (by omega) dX4_isGreater_48 ?_
      refine z_lneg (pc := 49) hx hb dX4_isGreater_49 ?_
      refine lv_lstore (lv' := [(10, .long (zj ((-((((-c_) + d) - 1) / d))))), (8, .long (zj ((-((((-a) + b) - 1) / b))))), (0, .long (zj (a))), (2, .long (zj (b))), (4, .long (zj (c_))), (6, .long (zj (d)))]) (pc := 50) hx hb dX4_isGreater_50 hl (by decide) rfl (fun ls hl => ?_)
      have eo : (-((((-a) + b) - 1) / b)) = a / b := floor_neg (by omega)
      have et : (-((((-c_) + d) - 1) / d)) = c_ / d := floor_neg (by omega)
      have ra := rem_rng (a := a) (b := b) (by omega)
      have rc := rem_rng (a := c_) (b := d) (by omega)
      rw [← eo] at ra
      rw [← et] at rc
      have ma := mul_rng (a := a - (-((((-a) + b) - 1) / b)) * b) (b := d) (A := 59904000) (B := 59904000) (by omega) (by omega)
      have mb := mul_rng (a := c_ - (-((((-c_) + d) - 1) / d)) * d) (b := b) (A := 59904000) (B := 59904000) (by omega) (by omega)
      refine lv_lload (pc := 52) hx hb dX4_isGreater_52 (lv_at hl 1 rfl) ?_
      refine lv_lload (pc := 54) hx hb dX4_isGreater_54 (lv_at hl 0 rfl) ?_
      refine z_lcmp_gt (tgt := 91) (pc := 56) hx hb dX4_isGreater_56 dX4_isGreater_57 (by decide) (by omega) (by omega) (fun c_3 => ?_) (fun c_3 => ?_)
      · refine z_iconst (pc := 91) hx hb dX4_isGreater_91 ?_
        refine lv_goto (tgt := 96) (pc := 92) hx hb dX4_isGreater_92 (by decide) ?_
        exact rd_zret hx hb hrt hlk dX4_isGreater_96 (bI1 ((frac_gt hq.1 hq.2.2.1).mp (by rw [← eo, ← et]; omega)))
      · refine lv_lload (pc := 60) hx hb dX4_isGreater_60 (lv_at hl 1 rfl) ?_
        refine lv_lload (pc := 62) hx hb dX4_isGreater_62 (lv_at hl 0 rfl) ?_
        refine z_lcmp_ne (tgt := 95) (pc := 64) hx hb dX4_isGreater_64 dX4_isGreater_65 (by decide) (by omega) (by omega) (fun c_4 => ?_) (fun c_4 => ?_)
        · refine z_iconst (pc := 95) hx hb dX4_isGreater_95 ?_
          exact rd_zret hx hb hrt hlk dX4_isGreater_96 (bI0 (fun h => absurd ((frac_gt hq.1 hq.2.2.1).mpr h) (by rw [← eo, ← et]; omega)))
        · refine lv_lload_n (pc := 68) hx hb dX4_isGreater_68 rfl (lv_at hl 2 rfl) ?_
          refine lv_lload (pc := 69) hx hb dX4_isGreater_69 (lv_at hl 1 rfl) ?_
          refine lv_lload_n (pc := 71) hx hb dX4_isGreater_71 rfl (lv_at hl 3 rfl) ?_
          refine z_lmul (pc := 72) hx hb dX4_isGreater_72 ?_
          refine z_lsub (pc := 73) hx hb dX4_isGreater_73 ?_
          refine lv_lload (pc := 74) hx hb dX4_isGreater_74 (lv_at hl 5 rfl) ?_
          refine z_lmul (pc := 76) hx hb dX4_isGreater_76 ?_
          refine lv_lload (pc := 77) hx hb dX4_isGreater_77 (lv_at hl 4 rfl) ?_
          refine lv_lload (pc := 79) hx hb dX4_isGreater_79 (lv_at hl 0 rfl) ?_
          refine lv_lload (pc := 81) hx hb dX4_isGreater_81 (lv_at hl 5 rfl) ?_
          refine z_lmul (pc := 83) hx hb dX4_isGreater_83 ?_
          refine z_lsub (pc := 84) hx hb dX4_isGreater_84 ?_
          refine lv_lload_n (pc := 85) hx hb dX4_isGreater_85 rfl (lv_at hl 3 rfl) ?_
          refine z_lmul (pc := 86) hx hb dX4_isGreater_86 ?_
          refine z_lcmp_le (tgt := 95) (pc := 87) hx hb dX4_isGreater_87 dX4_isGreater_88 (by decide) (by omega) (by omega) (fun c_5 => ?_) (fun c_5 => ?_)
          · refine z_iconst (pc := 95) hx hb dX4_isGreater_95 ?_
            exact rd_zret hx hb hrt hlk dX4_isGreater_96 (bI0 (fun h => absurd ((frac_gt hq.1 hq.2.2.1).mpr h) (by rw [← eo, ← et]; omega)))
          · refine z_iconst (pc := 91) hx hb dX4_isGreater_91 ?_
            refine lv_goto (tgt := 96) (pc := 92) hx hb dX4_isGreater_92 (by decide) ?_
            exact rd_zret hx hb hrt hlk dX4_isGreater_96 (bI1 ((frac_gt hq.1 hq.2.2.1).mp (by rw [← eo, ← et]; omega)))
    · have hd_c : 0 ≤ c_ / d ∧ c_ / d ≤ c_ := ⟨Int.ediv_nonneg (by omega) (by omega), Int.ediv_le_self _ (by omega)⟩
      refine lv_lload (pc := 30) hx hb dX4_isGreater_30 (lv_at hl 3 rfl) ?_
      refine lv_lload (pc := 32) hx hb dX4_isGreater_32 (lv_at hl 4 rfl) ?_
      refine z_ldiv (pc := 34) hx hb (by omega) dX4_isGreater_34 ?_
      refine lv_goto (tgt := 50) (pc := 35) hx hb dX4_isGreater_35 (by decide) ?_
      refine lv_lstore (lv' := [(10, .long (zj ((c_ / d)))), (8, .long (zj ((-((((-a) + b) - 1) / b))))), (0, .long (zj (a))), (2, .long (zj (b))), (4, .long (zj (c_))), (6, .long (zj (d)))]) (pc := 50) hx hb dX4_isGreater_50 hl (by decide) rfl (fun ls hl => ?_)
      have eo : (-((((-a) + b) - 1) / b)) = a / b := floor_neg (by omega)
      have et : (c_ / d) = c_ / d := rfl
      have ra := rem_rng (a := a) (b := b) (by omega)
      have rc := rem_rng (a := c_) (b := d) (by omega)
      rw [← eo] at ra
      rw [← et] at rc
      have ma := mul_rng (a := a - (-((((-a) + b) - 1) / b)) * b) (b := d) (A := 59904000) (B := 59904000) (by omega) (by omega)
      have mb := mul_rng (a := c_ - (c_ / d) * d) (b := b) (A := 59904000) (B := 59904000) (by omega) (by omega)
      refine lv_lload (pc := 52) hx hb dX4_isGreater_52 (lv_at hl 1 rfl) ?_
      refine lv_lload (pc := 54) hx hb dX4_isGreater_54 (lv_at hl 0 rfl) ?_
      refine z_lcmp_gt (tgt := 91) (pc := 56) hx hb dX4_isGreater_56 dX4_isGreater_57 (by decide) (by omega) (by omega) (fun c_6 => ?_) (fun c_6 => ?_)
      · refine z_iconst (pc := 91) hx hb dX4_isGreater_91 ?_
        refine lv_goto (tgt := 96) (pc := 92) hx hb dX4_isGreater_92 (by decide) ?_
        exact rd_zret hx hb hrt hlk dX4_isGreater_96 (bI1 ((frac_gt hq.1 hq.2.2.1).mp (by rw [← eo, ← et]; omega)))
      · refine lv_lload (pc := 60) hx hb dX4_isGreater_60 (lv_at hl 1 rfl) ?_
        refine lv_lload (pc := 62) hx hb dX4_isGreater_62 (lv_at hl 0 rfl) ?_
        refine z_lcmp_ne (tgt := 95) (pc := 64) hx hb dX4_isGreater_64 dX4_isGreater_65 (by decide) (by omega) (by omega) (fun c_7 => ?_) (fun c_7 => ?_)
        · refine z_iconst (pc := 95) hx hb dX4_isGreater_95 ?_
          exact rd_zret hx hb hrt hlk dX4_isGreater_96 (bI0 (fun h => absurd ((frac_gt hq.1 hq.2.2.1).mpr h) (by rw [← eo, ← et]; omega)))
        · refine lv_lload_n (pc := 68) hx hb dX4_isGreater_68 rfl (lv_at hl 2 rfl) ?_
          refine lv_lload (pc := 69) hx hb dX4_isGreater_69 (lv_at hl 1 rfl) ?_
          refine lv_lload_n (pc := 71) hx hb dX4_isGreater_71 rfl (lv_at hl 3 rfl) ?_
          refine z_lmul (pc := 72) hx hb dX4_isGreater_72 ?_
          refine z_lsub (pc := 73) hx hb dX4_isGreater_73 ?_
          refine lv_lload (pc := 74) hx hb dX4_isGreater_74 (lv_at hl 5 rfl) ?_
          refine z_lmul (pc := 76) hx hb dX4_isGreater_76 ?_
          refine lv_lload (pc := 77) hx hb dX4_isGreater_77 (lv_at hl 4 rfl) ?_
          refine lv_lload (pc := 79) hx hb dX4_isGreater_79 (lv_at hl 0 rfl) ?_
          refine lv_lload (pc := 81) hx hb dX4_isGreater_81 (lv_at hl 5 rfl) ?_
          refine z_lmul (pc := 83) hx hb dX4_isGreater_83 ?_
          refine z_lsub (pc := 84) hx hb dX4_isGreater_84 ?_
          refine lv_lload_n (pc := 85) hx hb dX4_isGreater_85 rfl (lv_at hl 3 rfl) ?_
          refine z_lmul (pc := 86) hx hb dX4_isGreater_86 ?_
          refine z_lcmp_le (tgt := 95) (pc := 87) hx hb dX4_isGreater_87 dX4_isGreater_88 (by decide) (by omega) (by omega) (fun c_8 => ?_) (fun c_8 => ?_)
          · refine z_iconst (pc := 95) hx hb dX4_isGreater_95 ?_
            exact rd_zret hx hb hrt hlk dX4_isGreater_96 (bI0 (fun h => absurd ((frac_gt hq.1 hq.2.2.1).mpr h) (by rw [← eo, ← et]; omega)))
          · refine z_iconst (pc := 91) hx hb dX4_isGreater_91 ?_
            refine lv_goto (tgt := 96) (pc := 92) hx hb dX4_isGreater_92 (by decide) ?_
            exact rd_zret hx hb hrt hlk dX4_isGreater_96 (bI1 ((frac_gt hq.1 hq.2.2.1).mp (by rw [← eo, ← et]; omega)))
  · have hd_a : 0 ≤ a / b ∧ a / b ≤ a := ⟨Int.ediv_nonneg (by omega) (by omega), Int.ediv_le_self _ (by omega)⟩
    refine lv_lload_n (pc := 6) hx hb dX4_isGreater_6 rfl (lv_at hl 0 rfl) ?_
    refine lv_lload_n (pc := 7) hx hb dX4_isGreater_7 rfl (lv_at hl 1 rfl) ?_
    refine z_ldiv (pc := 8) hx hb (by omega) dX4_isGreater_8 ?_
    refine lv_goto (tgt := 21) (pc := 9) hx hb dX4_isGreater_9 (by decide) ?_
    refine lv_lstore (lv' := [(8, .long (zj ((a / b)))), (0, .long (zj (a))), (2, .long (zj (b))), (4, .long (zj (c_))), (6, .long (zj (d)))]) (pc := 21) hx hb dX4_isGreater_21 hl (by decide) rfl (fun ls hl => ?_)
    refine lv_lload (pc := 23) hx hb dX4_isGreater_23 (lv_at hl 3 rfl) ?_
    refine z_lconst0 (pc := 25) hx hb dX4_isGreater_25 ?_
    refine z_lcmp_lt (tgt := 38) (pc := 26) hx hb dX4_isGreater_26 dX4_isGreater_27 (by decide) (by omega) (by omega) (fun c_9 => ?_) (fun c_9 => ?_)
    · have hd_c : 0 ≤ (((-c_) + d) - 1) / d ∧ (((-c_) + d) - 1) / d ≤ (((-c_) + d) - 1) := ⟨Int.ediv_nonneg (by omega) (by omega), Int.ediv_le_self _ (by omega)⟩
      refine lv_lload (pc := 38) hx hb dX4_isGreater_38 (lv_at hl 3 rfl) ?_
      refine z_lneg (pc := 40) hx hb dX4_isGreater_40 ?_
      refine lv_lload (pc := 41) hx hb dX4_isGreater_41 (lv_at hl 4 rfl) ?_
      refine z_ladd (pc := 43) hx hb dX4_isGreater_43 ?_
      refine z_lconst1 (pc := 44) hx hb dX4_isGreater_44 ?_
      refine z_lsub (pc := 45) hx hb dX4_isGreater_45 ?_
      refine lv_lload (pc := 46) hx hb dX4_isGreater_46 (lv_at hl 4 rfl) ?_
      refine z_ldiv (pc := 48) hx hb (by omega) dX4_isGreater_48 ?_
      refine z_lneg (pc := 49) hx hb dX4_isGreater_49 ?_
      refine lv_lstore (lv' := [(10, .long (zj ((-((((-c_) + d) - 1) / d))))), (8, .long (zj ((a / b)))), (0, .long (zj (a))), (2, .long (zj (b))), (4, .long (zj (c_))), (6, .long (zj (d)))]) (pc := 50) hx hb dX4_isGreater_50 hl (by decide) rfl (fun ls hl => ?_)
      have eo : (a / b) = a / b := rfl
      have et : (-((((-c_) + d) - 1) / d)) = c_ / d := floor_neg (by omega)
      have ra := rem_rng (a := a) (b := b) (by omega)
      have rc := rem_rng (a := c_) (b := d) (by omega)
      rw [← eo] at ra
      rw [← et] at rc
      have ma := mul_rng (a := a - (a / b) * b) (b := d) (A := 59904000) (B := 59904000) (by omega) (by omega)
      have mb := mul_rng (a := c_ - (-((((-c_) + d) - 1) / d)) * d) (b := b) (A := 59904000) (B := 59904000) (by omega) (by omega)
      refine lv_lload (pc := 52) hx hb dX4_isGreater_52 (lv_at hl 1 rfl) ?_
      refine lv_lload (pc := 54) hx hb dX4_isGreater_54 (lv_at hl 0 rfl) ?_
      refine z_lcmp_gt (tgt := 91) (pc := 56) hx hb dX4_isGreater_56 dX4_isGreater_57 (by decide) (by omega) (by omega) (fun c_10 => ?_) (fun c_10 => ?_)
      · refine z_iconst (pc := 91) hx hb dX4_isGreater_91 ?_
        refine lv_goto (tgt := 96) (pc := 92) hx hb dX4_isGreater_92 (by decide) ?_
        exact rd_zret hx hb hrt hlk dX4_isGreater_96 (bI1 ((frac_gt hq.1 hq.2.2.1).mp (by rw [← eo, ← et]; omega)))
      · refine lv_lload (pc := 60) hx hb dX4_isGreater_60 (lv_at hl 1 rfl) ?_
        refine lv_lload (pc := 62) hx hb dX4_isGreater_62 (lv_at hl 0 rfl) ?_
        refine z_lcmp_ne (tgt := 95) (pc := 64) hx hb dX4_isGreater_64 dX4_isGreater_65 (by decide) (by omega) (by omega) (fun c_11 => ?_) (fun c_11 => ?_)
        · refine z_iconst (pc := 95) hx hb dX4_isGreater_95 ?_
          exact rd_zret hx hb hrt hlk dX4_isGreater_96 (bI0 (fun h => absurd ((frac_gt hq.1 hq.2.2.1).mpr h) (by rw [← eo, ← et]; omega)))
        · refine lv_lload_n (pc := 68) hx hb dX4_isGreater_68 rfl (lv_at hl 2 rfl) ?_
          refine lv_lload (pc := 69) hx hb dX4_isGreater_69 (lv_at hl 1 rfl) ?_
          refine lv_lload_n (pc := 71) hx hb dX4_isGreater_71 rfl (lv_at hl 3 rfl) ?_
          refine z_lmul (pc := 72) hx hb dX4_isGreater_72 ?_
          refine z_lsub (pc := 73) hx hb dX4_isGreater_73 ?_
          refine lv_lload (pc := 74) hx hb dX4_isGreater_74 (lv_at hl 5 rfl) ?_
          refine z_lmul (pc := 76) hx hb dX4_isGreater_76 ?_
          refine lv_lload (pc := 77) hx hb dX4_isGreater_77 (lv_at hl 4 rfl) ?_
          refine lv_lload (pc := 79) hx hb dX4_isGreater_79 (lv_at hl 0 rfl) ?_
          refine lv_lload (pc := 81) hx hb dX4_isGreater_81 (lv_at hl 5 rfl) ?_
          refine z_lmul (pc := 83) hx hb dX4_isGreater_83 ?_
          refine z_lsub (pc := 84) hx hb dX4_isGreater_84 ?_
          refine lv_lload_n (pc := 85) hx hb dX4_isGreater_85 rfl (lv_at hl 3 rfl) ?_
          refine z_lmul (pc := 86) hx hb dX4_isGreater_86 ?_
          refine z_lcmp_le (tgt := 95) (pc := 87) hx hb dX4_isGreater_87 dX4_isGreater_88 (by decide) (by omega) (by omega) (fun c_12 => ?_) (fun c_12 => ?_)
          · refine z_iconst (pc := 95) hx hb dX4_isGreater_95 ?_
            exact rd_zret hx hb hrt hlk dX4_isGreater_96 (bI0 (fun h => absurd ((frac_gt hq.1 hq.2.2.1).mpr h) (by rw [← eo, ← et]; omega)))
          · refine z_iconst (pc := 91) hx hb dX4_isGreater_91 ?_
            refine lv_goto (tgt := 96) (pc := 92) hx hb dX4_isGreater_92 (by decide) ?_
            exact rd_zret hx hb hrt hlk dX4_isGreater_96 (bI1 ((frac_gt hq.1 hq.2.2.1).mp (by rw [← eo, ← et]; omega)))
    · have hd_c : 0 ≤ c_ / d ∧ c_ / d ≤ c_ := ⟨Int.ediv_nonneg (by omega) (by omega), Int.ediv_le_self _ (by omega)⟩
      refine lv_lload (pc := 30) hx hb dX4_isGreater_30 (lv_at hl 3 rfl) ?_
      refine lv_lload (pc := 32) hx hb dX4_isGreater_32 (lv_at hl 4 rfl) ?_
      refine z_ldiv (pc := 34) hx hb (by omega) dX4_isGreater_34 ?_
      refine lv_goto (tgt := 50) (pc := 35) hx hb dX4_isGreater_35 (by decide) ?_
      refine lv_lstore (lv' := [(10, .long (zj ((c_ / d)))), (8, .long (zj ((a / b)))), (0, .long (zj (a))), (2, .long (zj (b))), (4, .long (zj (c_))), (6, .long (zj (d)))]) (pc := 50) hx hb dX4_isGreater_50 hl (by decide) rfl (fun ls hl => ?_)
      have eo : (a / b) = a / b := rfl
      have et : (c_ / d) = c_ / d := rfl
      have ra := rem_rng (a := a) (b := b) (by omega)
      have rc := rem_rng (a := c_) (b := d) (by omega)
      rw [← eo] at ra
      rw [← et] at rc
      have ma := mul_rng (a := a - (a / b) * b) (b := d) (A := 59904000) (B := 59904000) (by omega) (by omega)
      have mb := mul_rng (a := c_ - (c_ / d) * d) (b := b) (A := 59904000) (B := 59904000) (by omega) (by omega)
      refine lv_lload (pc := 52) hx hb dX4_isGreater_52 (lv_at hl 1 rfl) ?_
      refine lv_lload (pc := 54) hx hb dX4_isGreater_54 (lv_at hl 0 rfl) ?_
      refine z_lcmp_gt (tgt := 91) (pc := 56) hx hb dX4_isGreater_56 dX4_isGreater_57 (by decide) (by omega) (by omega) (fun c_13 => ?_) (fun c_13 => ?_)
      · refine z_iconst (pc := 91) hx hb dX4_isGreater_91 ?_
        refine lv_goto (tgt := 96) (pc := 92) hx hb dX4_isGreater_92 (by decide) ?_
        exact rd_zret hx hb hrt hlk dX4_isGreater_96 (bI1 ((frac_gt hq.1 hq.2.2.1).mp (by rw [← eo, ← et]; omega)))
      · refine lv_lload (pc := 60) hx hb dX4_isGreater_60 (lv_at hl 1 rfl) ?_
        refine lv_lload (pc := 62) hx hb dX4_isGreater_62 (lv_at hl 0 rfl) ?_
        refine z_lcmp_ne (tgt := 95) (pc := 64) hx hb dX4_isGreater_64 dX4_isGreater_65 (by decide) (by omega) (by omega) (fun c_14 => ?_) (fun c_14 => ?_)
        · refine z_iconst (pc := 95) hx hb dX4_isGreater_95 ?_
          exact rd_zret hx hb hrt hlk dX4_isGreater_96 (bI0 (fun h => absurd ((frac_gt hq.1 hq.2.2.1).mpr h) (by rw [← eo, ← et]; omega)))
        · refine lv_lload_n (pc := 68) hx hb dX4_isGreater_68 rfl (lv_at hl 2 rfl) ?_
          refine lv_lload (pc := 69) hx hb dX4_isGreater_69 (lv_at hl 1 rfl) ?_
          refine lv_lload_n (pc := 71) hx hb dX4_isGreater_71 rfl (lv_at hl 3 rfl) ?_
          refine z_lmul (pc := 72) hx hb dX4_isGreater_72 ?_
          refine z_lsub (pc := 73) hx hb dX4_isGreater_73 ?_
          refine lv_lload (pc := 74) hx hb dX4_isGreater_74 (lv_at hl 5 rfl) ?_
          refine z_lmul (pc := 76) hx hb dX4_isGreater_76 ?_
          refine lv_lload (pc := 77) hx hb dX4_isGreater_77 (lv_at hl 4 rfl) ?_
          refine lv_lload (pc := 79) hx hb dX4_isGreater_79 (lv_at hl 0 rfl) ?_
          refine lv_lload (pc := 81) hx hb dX4_isGreater_81 (lv_at hl 5 rfl) ?_
          refine z_lmul (pc := 83) hx hb dX4_isGreater_83 ?_
          refine z_lsub (pc := 84) hx hb dX4_isGreater_84 ?_
          refine lv_lload_n (pc := 85) hx hb dX4_isGreater_85 rfl (lv_at hl 3 rfl) ?_
          refine z_lmul (pc := 86) hx hb dX4_isGreater_86 ?_
          refine z_lcmp_le (tgt := 95) (pc := 87) hx hb dX4_isGreater_87 dX4_isGreater_88 (by decide) (by omega) (by omega) (fun c_15 => ?_) (fun c_15 => ?_)
          · refine z_iconst (pc := 95) hx hb dX4_isGreater_95 ?_
            exact rd_zret hx hb hrt hlk dX4_isGreater_96 (bI0 (fun h => absurd ((frac_gt hq.1 hq.2.2.1).mpr h) (by rw [← eo, ← et]; omega)))
          · refine z_iconst (pc := 91) hx hb dX4_isGreater_91 ?_
            refine lv_goto (tgt := 96) (pc := 92) hx hb dX4_isGreater_92 (by decide) ?_
            exact rd_zret hx hb hrt hlk dX4_isGreater_96 (bI1 ((frac_gt hq.1 hq.2.2.1).mp (by rw [← eo, ← et]; omega)))
