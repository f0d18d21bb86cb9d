set_option maxHeartbeats 4000000 in
set_option maxRecDepth 100000 in
theorem c_X4_findHalves (D : va_G) (cI cJ : ClassId) (l : Launch) (ad : Nat → Nat) (n : Int) (st hr ca sp : Nat → Int) (k : Int) (ts th : Nat → Int) (pr hc lu ll up lo : Int) (fr rr hv : Nat → Int) (hU : VU n st hr ca) : WR D cI cJ l yX4_findHalves cX4_findHalves 3 (some .boolean) 4 96 [.ref (ad 0)] (wM ad cI n st hr ca sp k ts th pr hc lu ll up lo fr rr hv) (fun v' ws' => v' = .int (bI (¬ fndI (hvF n st hr ca) 4 = 0)) ∧ ∃ (lu' ll' up' lo' : Int) (fr' rr' hv' : Nat → Int), (∀ j, j < 4 → hv' j = hvF n st hr ca j) ∧ ws' = (wM ad cI n st hr ca sp k ts th pr hc lu' ll' up' lo' fr' rr' hv')) := by
  refine WR.of (by decide) (Nat.le_of_ble_eq_true rfl) ?_
  intro p e s m args below meth c hx hb hrt hml hown hT hlk hK hP hD hS ls hl
  replace hl : lv_has ls 3 [(0, .ref (ad 0))] := hl
  have loop : ∀ u : Nat, u ≤ 4 → ∀ (z1 z2 zu zl zp zo : Int), ∀ (fw : Nat → Int) (rw_ : Nat → Int) (hw : Nat → Int) (H : Heap) (locs : List Loc), (z1 = fndI (hvF n st hr ca) u) → (z2 = (u : Int)) → (∀ j, j < u → hw j = hvF n st hr ca j) → va_P D vwCl (wM ad cI n st hr ca sp k ts th pr hc zu zl zp zo fw rw_ hw) H → va_D (inW (wM ad cI n st hr ca sp k ts th pr hc lu ll up lo fr rr hv)) (wM ad cI n st hr ca sp k ts th pr hc zu zl zp zo fw rw_ hw) → va_S (inW (wM ad cI n st hr ca sp k ts th pr hc lu ll up lo fr rr hv)) s.heap H locs → ∀ ls : Array Slot, lv_has ls 3 [(0, .ref (ad 0)), (1, .int (zi (z1))), (2, .int (zi (z2)))] → W p l e (RM 4 96) s m args below meth c H locs 0 0 (MQ below (QW D (wM ad cI n st hr ca sp k ts th pr hc lu ll up lo fr rr hv) (fun v' ws' => v' = .int (bI (¬ fndI (hvF n st hr ca) 4 = 0)) ∧ ∃ (lu' ll' up' lo' : Int) (fr' rr' hv' : Nat → Int), (∀ j, j < 4 → hv' j = hvF n st hr ca j) ∧ ws' = (wM ad cI n st hr ca sp k ts th pr hc lu' ll' up' lo' fr' rr' hv'))) args s 0 0 (inW (wM ad cI n st hr ca sp k ts th pr hc lu ll up lo fr rr hv))) (F0 m 4 ls []) := by
    refine lp_up (fun u => ∀ (z1 z2 zu zl zp zo : Int), ∀ (fw : Nat → Int) (rw_ : Nat → Int) (hw : Nat → Int) (H : Heap) (locs : List Loc), (z1 = fndI (hvF n st hr ca) u) → (z2 = (u : Int)) → (∀ j, j < u → hw j = hvF n st hr ca j) → va_P D vwCl (wM ad cI n st hr ca sp k ts th pr hc zu zl zp zo fw rw_ hw) H → va_D (inW (wM ad cI n st hr ca sp k ts th pr hc lu ll up lo fr rr hv)) (wM ad cI n st hr ca sp k ts th pr hc zu zl zp zo fw rw_ hw) → va_S (inW (wM ad cI n st hr ca sp k ts th pr hc lu ll up lo fr rr hv)) s.heap H locs → ∀ ls : Array Slot, lv_has ls 3 [(0, .ref (ad 0)), (1, .int (zi (z1))), (2, .int (zi (z2)))] → W p l e (RM 4 96) s m args below meth c H locs 0 0 (MQ below (QW D (wM ad cI n st hr ca sp k ts th pr hc lu ll up lo fr rr hv) (fun v' ws' => v' = .int (bI (¬ fndI (hvF n st hr ca) 4 = 0)) ∧ ∃ (lu' ll' up' lo' : Int) (fr' rr' hv' : Nat → Int), (∀ j, j < 4 → hv' j = hvF n st hr ca j) ∧ ws' = (wM ad cI n st hr ca sp k ts th pr hc lu' ll' up' lo' fr' rr' hv'))) args s 0 0 (inW (wM ad cI n st hr ca sp k ts th pr hc lu ll up lo fr rr hv))) (F0 m 4 ls [])) (4) ?_ ?_
    · intro z1 z2 zu zl zp zo fw rw_ hw H locs e1 e2 e3 hP hD hS ls hl
      refine lv_iload_n (pc := 4) hx hb dX4_findHalves_4 rfl (lv_at hl 2 rfl) ?_
      refine z_iconst (pc := 5) hx hb dX4_findHalves_5 ?_
      refine z_icmp_ge (tgt := 50) (pc := 6) hx hb dX4_findHalves_6 (by decide) (by omega) (by omega) (fun c_1 => ?_) (fun c_1 => absurd c_1 (by omega))
      refine lv_iload_n (pc := 50) hx hb dX4_findHalves_50 rfl (lv_at hl 1 rfl) ?_
      have hfr := fndI_rng (hvF n st hr ca) 4
      have hzb : zi z1 = bI (¬ fndI (hvF n st hr ca) 4 = 0) := by
        rw [e1]
        rcases hfr with q | q
        · rw [q]; exact bI0 (fun h => h rfl)
        · rw [q]; exact bI1 (by omega)
      exact wr_zret (φ := ¬ fndI (hvF n st hr ca) 4 = 0) hx hb hrt hlk dX4_findHalves_51 hzb hP hS ⟨rfl, _, _, _, _, _, _, _, e3, rfl⟩
    · intro u hu ih z1 z2 zu zl zp zo fw rw_ hw H locs e1 e2 e3 hP hD hS ls hl
      refine lv_iload_n (pc := 4) hx hb dX4_findHalves_4 rfl (lv_at hl 2 rfl) ?_
      refine z_iconst (pc := 5) hx hb dX4_findHalves_5 ?_
      refine z_icmp_ge (tgt := 50) (pc := 6) hx hb dX4_findHalves_6 (by decide) (by omega) (by omega) (fun c_2 => absurd c_2 (by omega)) (fun c_2 => ?_)
      have ez : z2.toNat = u := by omega
      have hp4 := pow4 ⟨u, by omega⟩
      simp only at hp4
      rw [← ez] at hp4
      refine lv_aload_n (pc := 9) hx hb dX4_findHalves_9 rfl (lv_at hl 0 rfl) ?_
      refine va_get (D := D) (cl := vwCl) (ci := 4) (v := .ref (ad 9)) (C := RX4) (T := TX4) (N := 17) (pc := 10) hx hb hT inT4 hown hK.1 hP 0 rfl rfl 16 (by decide) (hT _ tw_353) (fun _ h9 => h9) rfl dX4_findHalves_10 ?_
      refine lv_iload_n (pc := 13) hx hb dX4_findHalves_13 rfl (lv_at hl 2 rfl) ?_
      refine lv_aload_n (pc := 14) hx hb dX4_findHalves_14 rfl (lv_at hl 0 rfl) ?_
      refine z_iconst (pc := 15) hx hb dX4_findHalves_15 ?_
      refine lv_iload_n (pc := 16) hx hb dX4_findHalves_16 rfl (lv_at hl 2 rfl) ?_
      refine z_ishl (pc := 17) hx hb (by omega) dX4_findHalves_17 ?_
      refine z_iconst (pc := 18) hx hb dX4_findHalves_18 ?_
      refine z_iconst (pc := 19) hx hb dX4_findHalves_19 ?_
      refine z_iconst (pc := 20) hx hb dX4_findHalves_20 ?_
      refine wr_V (pc := 21) hx hb hml hown hT hK (c_X4_timeOf D cI cJ l ad n st hr ca sp k ts th pr hc zu zl zp zo fw rw_ hw hU ((1 * 2 ^ (z2).toNat)) (by omega) (-1) (by omega) (1) (2) (by omega)) ca_X4_timeOf tw_479 hP hD hS (fun q h => inW_same (by rfl) h) 0 4 rfl rfl rfl ⟨Nat.le_of_ble_eq_true rfl, Nat.le_of_ble_eq_true rfl⟩ rfl hl.1 (As := [.int (zi ((1 * 2 ^ (z2).toNat))), .int (zi (-1)), .int (zi (1)), .int (zi (2))]) (rest := [.int (zi (z2)), .ref (ad 9)]) rfl (Nat.le_of_ble_eq_true rfl) ⟨Nat.le_of_ble_eq_true rfl, Nat.le_of_ble_eq_true rfl⟩ dX4_findHalves_21 (fun v_ ws_ H locs hΦ hP hz_ hk_ hS => ?_)
      obtain ⟨rfl, lu_3, ll_3, up_3, lo_3, fr_3, rr_3, rfl⟩ := hΦ
      replace hD : va_D (inW (wM ad cI n st hr ca sp k ts th pr hc lu ll up lo fr rr hv)) (wM ad cI n st hr ca sp k ts th pr hc lu_3 ll_3 up_3 lo_3 fr_3 rr_3 hw) := hD.same rfl
      refine z_iast (pc := 24) hx hb hK hP hD hS 9 (u) (f := hw) (x := (timeF (tmT (FF n st hr ca ((1 * 2 ^ (z2).toNat)) (-1)) (RR n st hr ((1 * 2 ^ (z2).toNat))) (1) (2)) 501)) rfl (by omega) (by omega) (by omega) dX4_findHalves_24 (fun H locs hP hD hS => ?_)
      replace hP : va_P D vwCl (wM ad cI n st hr ca sp k ts th pr hc lu_3 ll_3 up_3 lo_3 fr_3 rr_3 (uZ hw (u) ((timeF (tmT (FF n st hr ca ((1 * 2 ^ (z2).toNat)) (-1)) (RR n st hr ((1 * 2 ^ (z2).toNat))) (1) (2)) 501)))) H := hP
      replace hD : va_D (inW (wM ad cI n st hr ca sp k ts th pr hc lu ll up lo fr rr hv)) (wM ad cI n st hr ca sp k ts th pr hc lu_3 ll_3 up_3 lo_3 fr_3 rr_3 (uZ hw (u) ((timeF (tmT (FF n st hr ca ((1 * 2 ^ (z2).toNat)) (-1)) (RR n st hr ((1 * 2 ^ (z2).toNat))) (1) (2)) 501)))) := hD
      have hus := uZ_s hw u (timeF (tmT (FF n st hr ca ((1 * 2 ^ (z2).toNat)) (-1)) (RR n st hr ((1 * 2 ^ (z2).toNat))) (1) (2)) 501)
      have hval : uZ hw u (timeF (tmT (FF n st hr ca ((1 * 2 ^ (z2).toNat)) (-1)) (RR n st hr ((1 * 2 ^ (z2).toNat))) (1) (2)) 501) u = hvF n st hr ca u := by rw [hus, ez]; rfl
      have htr := hvF_rng n st hr ca u
      have hfr := fndI_rng (hvF n st hr ca) u
      have hall : ∀ j, j < u + 1 → uZ hw u (timeF (tmT (FF n st hr ca ((1 * 2 ^ (z2).toNat)) (-1)) (RR n st hr ((1 * 2 ^ (z2).toNat))) (1) (2)) 501) j = hvF n st hr ca j := by
        intro j hj
        rcases Nat.lt_or_ge j u with q | q
        · rw [uZ_n (by omega)]; exact e3 j q
        · have e : j = u := by omega
          rw [e]; exact hval
      refine lv_iload_n (pc := 25) hx hb dX4_findHalves_25 rfl (lv_at hl 1 rfl) ?_
      refine z_if_ne (tgt := 38) (pc := 26) hx hb dX4_findHalves_26 (by decide) (by omega) (fun c_4 => ?_) (fun c_4 => ?_)
      · refine z_iconst (pc := 38) hx hb dX4_findHalves_38 ?_
        refine lv_goto (tgt := 43) (pc := 39) hx hb dX4_findHalves_39 (by decide) ?_
        refine lv_istore_n (lv' := [(1, .int (zi (1))), (0, .ref (ad 0)), (2, .int (zi (z2)))]) (pc := 43) hx hb dX4_findHalves_43 rfl hl (by decide) rfl (fun ls hl => ?_)
        refine lv_iinc (v := zi (z2 + 1)) (lv' := [(2, .int (zi ((z2 + 1)))), (1, .int (zi (1))), (0, .ref (ad 0))]) (pc := 44) hx hb dX4_findHalves_44 hl (k := 2) rfl (zi_add _ _) (by decide) rfl (fun ls hl => ?_)
        refine lv_goto (tgt := 4) (pc := 47) hx hb dX4_findHalves_47 (by decide) ?_
        exact ih  _ _ _ _ _ _ _ _ _ _ _ (by simp only [fndI]; rw [← hval, ← e1]; repeat (first | rw [if_pos (by omega)] | rw [if_neg (by omega)])) (by omega) (hall) hP hD hS ls (lv_sub hl [2, 1, 0] rfl)
      · refine lv_aload_n (pc := 29) hx hb dX4_findHalves_29 rfl (lv_at hl 0 rfl) ?_
        refine va_get (D := D) (cl := vwCl) (ci := 4) (v := .ref (ad 9)) (C := RX4) (T := TX4) (N := 17) (pc := 30) hx hb hT inT4 hown hK.1 hP 0 rfl rfl 16 (by decide) (hT _ tw_353) (fun _ h9 => h9) rfl dX4_findHalves_30 ?_
        refine lv_iload_n (pc := 33) hx hb dX4_findHalves_33 rfl (lv_at hl 2 rfl) ?_
        refine z_iald (pc := 34) hx hb hK hP 9 (u) (f := uZ hw (u) ((timeF (tmT (FF n st hr ca ((1 * 2 ^ (z2).toNat)) (-1)) (RR n st hr ((1 * 2 ^ (z2).toNat))) (1) (2)) 501))) rfl (by omega) (by omega) (by omega) dX4_findHalves_34 ?_
        refine z_if_lt (tgt := 42) (pc := 35) hx hb dX4_findHalves_35 (by decide) (by omega) (fun c_5 => ?_) (fun c_5 => ?_)
        · refine z_iconst (pc := 42) hx hb dX4_findHalves_42 ?_
          refine lv_istore_n (lv' := [(1, .int (zi (0))), (0, .ref (ad 0)), (2, .int (zi (z2)))]) (pc := 43) hx hb dX4_findHalves_43 rfl hl (by decide) rfl (fun ls hl => ?_)
          refine lv_iinc (v := zi (z2 + 1)) (lv' := [(2, .int (zi ((z2 + 1)))), (1, .int (zi (0))), (0, .ref (ad 0))]) (pc := 44) hx hb dX4_findHalves_44 hl (k := 2) rfl (zi_add _ _) (by decide) rfl (fun ls hl => ?_)
          refine lv_goto (tgt := 4) (pc := 47) hx hb dX4_findHalves_47 (by decide) ?_
          exact ih  _ _ _ _ _ _ _ _ _ _ _ (by simp only [fndI]; rw [← hval, ← e1]; repeat (first | rw [if_pos (by omega)] | rw [if_neg (by omega)])) (by omega) (hall) hP hD hS ls (lv_sub hl [2, 1, 0] rfl)
        · refine z_iconst (pc := 38) hx hb dX4_findHalves_38 ?_
          refine lv_goto (tgt := 43) (pc := 39) hx hb dX4_findHalves_39 (by decide) ?_
          refine lv_istore_n (lv' := [(1, .int (zi (1))), (0, .ref (ad 0)), (2, .int (zi (z2)))]) (pc := 43) hx hb dX4_findHalves_43 rfl hl (by decide) rfl (fun ls hl => ?_)
          refine lv_iinc (v := zi (z2 + 1)) (lv' := [(2, .int (zi ((z2 + 1)))), (1, .int (zi (1))), (0, .ref (ad 0))]) (pc := 44) hx hb dX4_findHalves_44 hl (k := 2) rfl (zi_add _ _) (by decide) rfl (fun ls hl => ?_)
          refine lv_goto (tgt := 4) (pc := 47) hx hb dX4_findHalves_47 (by decide) ?_
          exact ih  _ _ _ _ _ _ _ _ _ _ _ (by simp only [fndI]; rw [← hval, ← e1]; repeat (first | rw [if_pos (by omega)] | rw [if_neg (by omega)])) (by omega) (hall) hP hD hS ls (lv_sub hl [2, 1, 0] rfl)
  refine z_iconst (pc := 0) hx hb dX4_findHalves_0 ?_
  refine lv_istore_n (lv' := [(1, .int (zi (0))), (0, .ref (ad 0))]) (pc := 1) hx hb dX4_findHalves_1 rfl hl (by decide) rfl (fun ls hl => ?_)
  refine z_iconst (pc := 2) hx hb dX4_findHalves_2 ?_
  refine lv_istore_n (lv' := [(2, .int (zi (0))), (1, .int (zi (0))), (0, .ref (ad 0))]) (pc := 3) hx hb dX4_findHalves_3 rfl hl (by decide) rfl (fun ls hl => ?_)
  exact loop 0 (by omega) _ _ _ _ _ _ _ _ _ _ _ (by rfl) (by rfl) (fun j hj => absurd hj (by omega)) hP hD hS ls (lv_sub hl [2, 1, 0] rfl)

set_option maxHeartbeats 4000000 in
set_option maxRecDepth 100000 in
theorem c_X4_missOf (D : va_G) (cI cJ : ClassId) (l : Launch) (ad : Nat → Nat) (n : Int) (st hr ca sp : Nat → Int) (k : Int) (ts th : Nat → Int) (pr hc lu ll up lo : Int) (fr rr hv : Nat → Int) (X : Nat → Int) (hX : ∀ j : Nat, -1 ≤ X j ∧ X j ≤ 500) (hH : ∀ j, j < 4 → hv j = X j) (b s_ : Int) (hq : 0 ≤ b ∧ b ≤ 100000 ∧ 1 ≤ s_ ∧ s_ ≤ 20) : RD D cI cJ l yX4_missOf cX4_missOf 6 (some .int) 1 24 [.ref (ad 0), .int (zi (b)), .int (zi (s_))] (wM ad cI n st hr ca sp k ts th pr hc lu ll up lo fr rr hv) (.int (zi (msZ X b s_ 4))) := by
  refine RD.of (by decide) (Nat.le_of_ble_eq_true rfl) ?_
  intro p e s m args below meth c hx hb hrt hml hown hT hlk hK hP ls hl
  replace hl : lv_has ls 6 [(0, .ref (ad 0)), (1, .int (zi (b))), (2, .int (zi (s_)))] := hl
  have loop : ∀ u : Nat, u ≤ 4 → ∀ (z1 z2 : Int), (z1 = msZ X b s_ u) → (z2 = (u : Int)) → ∀ ls : Array Slot, lv_has ls 6 [(0, .ref (ad 0)), (1, .int (zi (b))), (2, .int (zi (s_))), (3, .int (zi (z1))), (4, .int (zi (z2)))] → W p l e (RM 1 24) s m args below meth c s.heap [] 0 0 (MQ below (QR (.int (zi (msZ X b s_ 4))) s.heap) args s 0 0 (fun _ => False)) (F0 m 5 ls []) := by
    refine lp_up (fun u => ∀ (z1 z2 : Int), (z1 = msZ X b s_ u) → (z2 = (u : Int)) → ∀ ls : Array Slot, lv_has ls 6 [(0, .ref (ad 0)), (1, .int (zi (b))), (2, .int (zi (s_))), (3, .int (zi (z1))), (4, .int (zi (z2)))] → W p l e (RM 1 24) s m args below meth c s.heap [] 0 0 (MQ below (QR (.int (zi (msZ X b s_ 4))) s.heap) args s 0 0 (fun _ => False)) (F0 m 5 ls [])) (4) ?_ ?_
    · intro z1 z2 e1 e2 ls hl
      refine lv_iload (pc := 5) hx hb dX4_missOf_5 (lv_at hl 4 rfl) ?_
      refine z_iconst (pc := 7) hx hb dX4_missOf_7 ?_
      refine z_icmp_ge (tgt := 64) (pc := 8) hx hb dX4_missOf_8 (by decide) (by omega) (by omega) (fun c_1 => ?_) (fun c_1 => absurd c_1 (by omega))
      refine lv_iload_n (pc := 64) hx hb dX4_missOf_64 rfl (lv_at hl 3 rfl) ?_
      exact rd_iret hx hb hrt hlk dX4_missOf_65 (by rw [e1])
    · intro u hu ih z1 z2 e1 e2 ls hl
      refine lv_iload (pc := 5) hx hb dX4_missOf_5 (lv_at hl 4 rfl) ?_
      refine z_iconst (pc := 7) hx hb dX4_missOf_7 ?_
      refine z_icmp_ge (tgt := 64) (pc := 8) hx hb dX4_missOf_8 (by decide) (by omega) (by omega) (fun c_2 => absurd c_2 (by omega)) (fun c_2 => ?_)
      have hHu : hv u = X u ∧ -1 ≤ X u ∧ X u ≤ 500 := ⟨hH u (by omega), hX u⟩
      have hsz := saysZ_rng b s_ (by omega) (by omega) u
      refine lv_aload_n (pc := 11) hx hb dX4_missOf_11 rfl (lv_at hl 0 rfl) ?_
      refine va_get (D := D) (cl := vwCl) (ci := 4) (v := .ref (ad 9)) (C := RX4) (T := TX4) (N := 17) (pc := 12) hx hb hT inT4 hown hK.1 hP 0 rfl rfl 16 (by decide) (hT _ tw_353) (fun _ h9 => h9) rfl dX4_missOf_12 ?_
      refine lv_iload (pc := 15) hx hb dX4_missOf_15 (lv_at hl 4 rfl) ?_
      refine z_iald (pc := 17) hx hb hK hP 9 (u) (f := hv) rfl (by omega) (by omega) (by omega) dX4_missOf_17 ?_
      refine lv_iload_n (pc := 18) hx hb dX4_missOf_18 rfl (lv_at hl 1 rfl) ?_
      refine lv_iload_n (pc := 19) hx hb dX4_missOf_19 rfl (lv_at hl 2 rfl) ?_
      refine lv_iload (pc := 20) hx hb dX4_missOf_20 (lv_at hl 4 rfl) ?_
      refine rd_S (pc := 22) hx hb hml hown hT hK (c_X4_saysOf D cI cJ l (b) (s_) (z2) (u) (by omega) (by omega)) ca_X4_saysOf tw_525 va_Pnil ⟨Nat.le_of_ble_eq_true rfl, Nat.le_of_ble_eq_true rfl⟩ rfl hl.1 (As := [.int (zi (b)), .int (zi (s_)), .int (zi (z2))]) (rest := [.int (zi ((hv (u))))]) rfl (Nat.le_of_ble_eq_true rfl) ⟨Nat.le_of_ble_eq_true rfl, Nat.le_of_ble_eq_true rfl⟩ dX4_missOf_22 ?_
      refine z_isub (pc := 25) hx hb dX4_missOf_25 ?_
      refine lv_istore (lv' := [(5, .int (zi (((hv (u)) - (saysZ (b) (s_) (u)))))), (0, .ref (ad 0)), (1, .int (zi (b))), (2, .int (zi (s_))), (3, .int (zi (z1))), (4, .int (zi (z2)))]) (pc := 26) hx hb dX4_missOf_26 hl (by decide) rfl (fun ls hl => ?_)
      refine lv_iload_n (pc := 28) hx hb dX4_missOf_28 rfl (lv_at hl 4 rfl) ?_
      refine lv_aload_n (pc := 29) hx hb dX4_missOf_29 rfl (lv_at hl 1 rfl) ?_
      refine va_get (D := D) (cl := vwCl) (ci := 4) (v := .ref (ad 9)) (C := RX4) (T := TX4) (N := 17) (pc := 30) hx hb hT inT4 hown hK.1 hP 0 rfl rfl 16 (by decide) (hT _ tw_353) (fun _ h9 => h9) rfl dX4_missOf_30 ?_
      refine lv_iload (pc := 33) hx hb dX4_missOf_33 (lv_at hl 5 rfl) ?_
      refine z_iald (pc := 35) hx hb hK hP 9 (u) (f := hv) rfl (by omega) (by omega) (by omega) dX4_missOf_35 ?_
      refine z_if_ge (tgt := 43) (pc := 36) hx hb dX4_missOf_36 (by decide) (by omega) (fun c_3 => ?_) (fun c_3 => ?_)
      · refine lv_iload (pc := 43) hx hb dX4_missOf_43 (lv_at hl 0 rfl) ?_
        refine z_if_ge (tgt := 54) (pc := 45) hx hb dX4_missOf_45 (by decide) (by omega) (fun c_4 => ?_) (fun c_4 => ?_)
        · refine lv_iload (pc := 54) hx hb dX4_missOf_54 (lv_at hl 0 rfl) ?_
          refine z_iadd (pc := 56) hx hb dX4_missOf_56 ?_
          refine lv_istore_n (lv' := [(3, .int (zi ((z1 + ((hv (u)) - (saysZ (b) (s_) (u))))))), (5, .int (zi (((hv (u)) - (saysZ (b) (s_) (u)))))), (0, .ref (ad 0)), (1, .int (zi (b))), (2, .int (zi (s_))), (4, .int (zi (z2)))]) (pc := 57) hx hb dX4_missOf_57 rfl hl (by decide) rfl (fun ls hl => ?_)
          refine lv_iinc (v := zi (z2 + 1)) (lv' := [(4, .int (zi ((z2 + 1)))), (3, .int (zi ((z1 + ((hv (u)) - (saysZ (b) (s_) (u))))))), (5, .int (zi (((hv (u)) - (saysZ (b) (s_) (u)))))), (0, .ref (ad 0)), (1, .int (zi (b))), (2, .int (zi (s_)))]) (pc := 58) hx hb dX4_missOf_58 hl (k := 5) rfl (zi_add _ _) (by decide) rfl (fun ls hl => ?_)
          refine lv_goto (tgt := 5) (pc := 61) hx hb dX4_missOf_61 (by decide) ?_
          exact ih  _ _ (by rw [e1]; simp only [msZ]; rw [← hHu.1]; unfold zabs; repeat (first | rw [if_pos (by omega)] | rw [if_neg (by omega)])) (by omega) ls (lv_sub hl [3, 4, 5, 1, 0] rfl)
        · refine lv_iload (pc := 48) hx hb dX4_missOf_48 (lv_at hl 0 rfl) ?_
          refine z_ineg (pc := 50) hx hb dX4_missOf_50 ?_
          refine lv_goto (tgt := 56) (pc := 51) hx hb dX4_missOf_51 (by decide) ?_
          refine z_iadd (pc := 56) hx hb dX4_missOf_56 ?_
          refine lv_istore_n (lv' := [(3, .int (zi ((z1 + (-((hv (u)) - (saysZ (b) (s_) (u)))))))), (5, .int (zi (((hv (u)) - (saysZ (b) (s_) (u)))))), (0, .ref (ad 0)), (1, .int (zi (b))), (2, .int (zi (s_))), (4, .int (zi (z2)))]) (pc := 57) hx hb dX4_missOf_57 rfl hl (by decide) rfl (fun ls hl => ?_)
          refine lv_iinc (v := zi (z2 + 1)) (lv' := [(4, .int (zi ((z2 + 1)))), (3, .int (zi ((z1 + (-((hv (u)) - (saysZ (b) (s_) (u)))))))), (5, .int (zi (((hv (u)) - (saysZ (b) (s_) (u)))))), (0, .ref (ad 0)), (1, .int (zi (b))), (2, .int (zi (s_)))]) (pc := 58) hx hb dX4_missOf_58 hl (k := 5) rfl (zi_add _ _) (by decide) rfl (fun ls hl => ?_)
          refine lv_goto (tgt := 5) (pc := 61) hx hb dX4_missOf_61 (by decide) ?_
          exact ih  _ _ (by rw [e1]; simp only [msZ]; rw [← hHu.1]; unfold zabs; repeat (first | rw [if_pos (by omega)] | rw [if_neg (by omega)])) (by omega) ls (lv_sub hl [3, 4, 5, 1, 0] rfl)
      · refine z_iconst (pc := 39) hx hb dX4_missOf_39 ?_
        refine lv_goto (tgt := 56) (pc := 40) hx hb dX4_missOf_40 (by decide) ?_
        refine z_iadd (pc := 56) hx hb dX4_missOf_56 ?_
        refine lv_istore_n (lv' := [(3, .int (zi ((z1 + 0)))), (5, .int (zi (((hv (u)) - (saysZ (b) (s_) (u)))))), (0, .ref (ad 0)), (1, .int (zi (b))), (2, .int (zi (s_))), (4, .int (zi (z2)))]) (pc := 57) hx hb dX4_missOf_57 rfl hl (by decide) rfl (fun ls hl => ?_)
        refine lv_iinc (v := zi (z2 + 1)) (lv' := [(4, .int (zi ((z2 + 1)))), (3, .int (zi ((z1 + 0)))), (5, .int (zi (((hv (u)) - (saysZ (b) (s_) (u)))))), (0, .ref (ad 0)), (1, .int (zi (b))), (2, .int (zi (s_)))]) (pc := 58) hx hb dX4_missOf_58 hl (k := 5) rfl (zi_add _ _) (by decide) rfl (fun ls hl => ?_)
        refine lv_goto (tgt := 5) (pc := 61) hx hb dX4_missOf_61 (by decide) ?_
        exact ih  _ _ (by rw [e1]; simp only [msZ]; rw [← hHu.1]; unfold zabs; repeat (first | rw [if_pos (by omega)] | rw [if_neg (by omega)])) (by omega) ls (lv_sub hl [3, 4, 5, 1, 0] rfl)
  refine z_iconst (pc := 0) hx hb dX4_missOf_0 ?_
  refine lv_istore_n (lv' := [(3, .int (zi (0))), (0, .ref (ad 0)), (1, .int (zi (b))), (2, .int (zi (s_)))]) (pc := 1) hx hb dX4_missOf_1 rfl hl (by decide) rfl (fun ls hl => ?_)
  refine z_iconst (pc := 2) hx hb dX4_missOf_2 ?_
  refine lv_istore (lv' := [(4, .int (zi (0))), (3, .int (zi (0))), (0, .ref (ad 0)), (1, .int (zi (b))), (2, .int (zi (s_)))]) (pc := 3) hx hb dX4_missOf_3 hl (by decide) rfl (fun ls hl => ?_)
  exact loop 0 (by omega) _ _ (by rfl) (by rfl) ls (lv_sub hl [2, 3, 4, 1, 0] rfl)

set_option maxHeartbeats 4000000 in
set_option maxRecDepth 100000 in
theorem c_X4_miss (D : va_G) (cI cJ : ClassId) (l : Launch) (ad : Nat → Nat) (n : Int) (st hr ca sp : Nat → Int) (k : Int) (ts th : Nat → Int) (pr hc lu ll up lo : Int) (fr rr hv : Nat → Int) (hU : VU n st hr ca) (b : Int) (r_b : -2147483648 ≤ b ∧ b ≤ 2147483647) (s_ : Int) (r_s_ : -2147483648 ≤ s_ ∧ s_ ≤ 2147483647) : WR D cI cJ l yX4_miss cX4_miss 4 (some .int) 5 118 [.ref (ad 0), .int (zi (b)), .int (zi (s_))] (wM ad cI n st hr ca sp k ts th pr hc lu ll up lo fr rr hv) (fun v' ws' => v' = .int (zi (missV n st hr ca b s_)) ∧ ∃ (lu' ll' up' lo' : Int) (fr' rr' hv' : Nat → Int), ws' = (wM ad cI n st hr ca sp k ts th pr hc lu' ll' up' lo' fr' rr' hv')) := by
  refine WR.of (by decide) (Nat.le_of_ble_eq_true rfl) ?_
  intro p e s m args below meth c hx hb hrt hml hown hT hlk hK hP hD hS ls hl
  replace hl : lv_has ls 4 [(0, .ref (ad 0)), (1, .int (zi (b))), (2, .int (zi (s_)))] := hl
  refine lv_iload_n (pc := 0) hx hb dX4_miss_0 rfl (lv_at hl 1 rfl) ?_
  refine lv_iload_n (pc := 1) hx hb dX4_miss_1 rfl (lv_at hl 2 rfl) ?_
  refine rd_S (pc := 2) hx hb hml hown hT hK (c_X4_isLaw D cI cJ l (b) (by omega) (s_) (by omega)) ca_X4_isLaw tw_520 va_Pnil ⟨Nat.le_of_ble_eq_true rfl, Nat.le_of_ble_eq_true rfl⟩ rfl hl.1 (As := [.int (zi (b)), .int (zi (s_))]) (rest := []) rfl (Nat.le_of_ble_eq_true rfl) ⟨Nat.le_of_ble_eq_true rfl, Nat.le_of_ble_eq_true rfl⟩ dX4_miss_2 ?_
  refine z_ifB_ne (tgt := 12) (pc := 5) hx hb dX4_miss_5 (by decide) (fun c_1 => ?_) (fun c_1 => ?_)
  · refine lv_aload_n (pc := 12) hx hb dX4_miss_12 rfl (lv_at hl 0 rfl) ?_
    refine wr_V (pc := 13) hx hb hml hown hT hK (c_X4_findHalves D cI cJ l ad n st hr ca sp k ts th pr hc lu ll up lo fr rr hv hU) ca_X4_findHalves tw_532 hP hD hS (fun q h => inW_same (by rfl) h) 0 4 rfl rfl rfl ⟨Nat.le_of_ble_eq_true rfl, Nat.le_of_ble_eq_true rfl⟩ rfl hl.1 (As := []) (rest := []) rfl (Nat.le_of_ble_eq_true rfl) ⟨Nat.le_of_ble_eq_true rfl, Nat.le_of_ble_eq_true rfl⟩ dX4_miss_13 (fun v_ ws_ H locs hΦ hP hz_ hk_ hS => ?_)
    obtain ⟨rfl, lu_2, ll_2, up_2, lo_2, fr_2, rr_2, hv_2, hH_2, rfl⟩ := hΦ
    replace hD : va_D (inW (wM ad cI n st hr ca sp k ts th pr hc lu ll up lo fr rr hv)) (wM ad cI n st hr ca sp k ts th pr hc lu_2 ll_2 up_2 lo_2 fr_2 rr_2 hv_2) := hD.same rfl
    refine lv_istore_n (lv' := [(3, .int (bI (¬ fndI (hvF n st hr ca) 4 = 0))), (0, .ref (ad 0)), (1, .int (zi (b))), (2, .int (zi (s_)))]) (pc := 16) hx hb dX4_miss_16 rfl hl (by decide) rfl (fun ls hl => ?_)
    refine lv_aload_n (pc := 17) hx hb dX4_miss_17 rfl (lv_at hl 1 rfl) ?_
    refine lv_iload_n (pc := 18) hx hb dX4_miss_18 rfl (lv_at hl 2 rfl) ?_
    refine lv_iload_n (pc := 19) hx hb dX4_miss_19 rfl (lv_at hl 3 rfl) ?_
    refine rd_V (pc := 20) hx hb hml hown hT hK (c_X4_missOf D cI cJ l ad n st hr ca sp k ts th pr hc lu_2 ll_2 up_2 lo_2 fr_2 rr_2 hv_2 (hvF n st hr ca) (hvF_rng n st hr ca) hH_2 (b) (s_) (by omega)) ca_X4_missOf tw_536 hP 0 4 rfl rfl rfl ⟨Nat.le_of_ble_eq_true rfl, Nat.le_of_ble_eq_true rfl⟩ rfl hl.1 (As := [.int (zi (b)), .int (zi (s_))]) (rest := []) rfl (Nat.le_of_ble_eq_true rfl) ⟨Nat.le_of_ble_eq_true rfl, Nat.le_of_ble_eq_true rfl⟩ dX4_miss_20 ?_
    exact wr_iret hx hb hrt hlk dX4_miss_23 hP hS (⟨by rw [missV, if_pos (by omega)], _, _, _, _, _, _, _, rfl⟩)
  · refine z_sipush (pc := 8) hx hb dX4_miss_8 (by decide) ?_
    exact wr_iret hx hb hrt hlk dX4_miss_11 hP hS (⟨by rw [missV, if_neg (by omega)], lu, ll, up, lo, fr, rr, hv, rfl⟩)

theorem LW_1 (H : Nat → Int) (b d : Int) : LW H b d 1 = (b + ((0 : Nat) : Int) * d, ((0 : Nat) : Int) + 1, msZ H (b + ((0 : Nat) : Int) * d) (((0 : Nat) : Int) + 1) 4) := by simp [LW]

set_option maxHeartbeats 4000000 in
set_option maxRecDepth 100000 in
theorem c_X4_law (D : va_G) (cI cJ : ClassId) (l : Launch) (ad : Nat → Nat) (n : Int) (st hr ca sp : Nat → Int) (k : Int) (ts th : Nat → Int) (pr hc lu ll up lo : Int) (fr rr hv : Nat → Int) (hU : VU n st hr ca) (b : Int) (r_b : -2147483648 ≤ b ∧ b ≤ 2147483647) (d : Int) (r_d : -2147483648 ≤ d ∧ d ≤ 2147483647) (w : Int) (r_w : -2147483648 ≤ w ∧ w ≤ 2147483647) : WR D cI cJ l yX4_law cX4_law 10 (some .int) 5 118 [.ref (ad 0), .int (zi (b)), .int (zi (d)), .int (zi (w))] (wM ad cI n st hr ca sp k ts th pr hc lu ll up lo fr rr hv) (fun v' ws' => v' = .int (zi (lawV n st hr ca b d w)) ∧ ∃ (lu' ll' up' lo' : Int) (fr' rr' hv' : Nat → Int), ws' = (wM ad cI n st hr ca sp k ts th pr hc lu' ll' up' lo' fr' rr' hv')) := by
  refine WR.of (by decide) (Nat.le_of_ble_eq_true rfl) ?_
  intro p e s m args below meth c hx hb hrt hml hown hT hlk hK hP hD hS ls hl
  replace hl : lv_has ls 10 [(0, .ref (ad 0)), (1, .int (zi (b))), (2, .int (zi (d))), (3, .int (zi (w)))] := hl
  refine lv_iload_n (pc := 0) hx hb dX4_law_0 rfl (lv_at hl 1 rfl) ?_
  refine z_i2l (pc := 1) hx hb (by omega) dX4_law_1 ?_
  refine z_lconst1 (pc := 2) hx hb dX4_law_2 ?_
  refine z_ldc2 (pc := 3) hx hb (100000) hown (hT _ tw_523) (by decide) dX4_law_3 ?_
  refine rd_S (pc := 6) hx hb hml hown hT hK (c_X4_in D cI cJ l (b) (by omega) (1) (by omega) (100000) (by omega)) ca_X4_in tw_400 va_Pnil ⟨Nat.le_of_ble_eq_true rfl, Nat.le_of_ble_eq_true rfl⟩ rfl hl.1 (As := [.long (zj (b)), .long (zj (1)), .long (zj (100000))]) (rest := []) rfl (Nat.le_of_ble_eq_true rfl) ⟨Nat.le_of_ble_eq_true rfl, Nat.le_of_ble_eq_true rfl⟩ dX4_law_6 ?_
  refine z_ifB_eq (tgt := 47) (pc := 9) hx hb dX4_law_9 (by decide) (fun c_1 => ?_) (fun c_1 => ?_)
  · refine z_sipush (pc := 47) hx hb dX4_law_47 (by decide) ?_
    exact wr_iret hx hb hrt hlk dX4_law_50 hP hS (⟨by rw [lawV, if_neg (by omega)], lu, ll, up, lo, fr, rr, hv, rfl⟩)
  · refine lv_iload_n (pc := 12) hx hb dX4_law_12 rfl (lv_at hl 2 rfl) ?_
    refine z_i2l (pc := 13) hx hb (by omega) dX4_law_13 ?_
    refine z_lconst0 (pc := 14) hx hb dX4_law_14 ?_
    refine z_ldc2 (pc := 15) hx hb (1000) hown (hT _ tw_478) (by decide) dX4_law_15 ?_
    refine rd_S (pc := 18) hx hb hml hown hT hK (c_X4_in D cI cJ l (d) (by omega) (0) (by omega) (1000) (by omega)) ca_X4_in tw_400 va_Pnil ⟨Nat.le_of_ble_eq_true rfl, Nat.le_of_ble_eq_true rfl⟩ rfl hl.1 (As := [.long (zj (d)), .long (zj (0)), .long (zj (1000))]) (rest := []) rfl (Nat.le_of_ble_eq_true rfl) ⟨Nat.le_of_ble_eq_true rfl, Nat.le_of_ble_eq_true rfl⟩ dX4_law_18 ?_
    refine z_ifB_eq (tgt := 47) (pc := 21) hx hb dX4_law_21 (by decide) (fun c_2 => ?_) (fun c_2 => ?_)
    · refine z_sipush (pc := 47) hx hb dX4_law_47 (by decide) ?_
      exact wr_iret hx hb hrt hlk dX4_law_50 hP hS (⟨by rw [lawV, if_neg (by omega)], lu, ll, up, lo, fr, rr, hv, rfl⟩)
    · refine lv_iload_n (pc := 24) hx hb dX4_law_24 rfl (lv_at hl 1 rfl) ?_
      refine z_bipush (pc := 25) hx hb dX4_law_25 (by decide) ?_
      refine lv_iload_n (pc := 27) hx hb dX4_law_27 rfl (lv_at hl 2 rfl) ?_
      refine z_imul (pc := 28) hx hb dX4_law_28 ?_
      refine z_iadd (pc := 29) hx hb dX4_law_29 ?_
      refine z_ldc (pc := 30) hx hb (100000) hown (hT _ tw_544) (by decide) dX4_law_30 ?_
      refine z_icmp_gt (tgt := 47) (pc := 32) hx hb dX4_law_32 (by decide) (by omega) (by omega) (fun c_3 => ?_) (fun c_3 => ?_)
      · refine z_sipush (pc := 47) hx hb dX4_law_47 (by decide) ?_
        exact wr_iret hx hb hrt hlk dX4_law_50 hP hS (⟨by rw [lawV, if_neg (by omega)], lu, ll, up, lo, fr, rr, hv, rfl⟩)
      · refine lv_iload_n (pc := 35) hx hb dX4_law_35 rfl (lv_at hl 3 rfl) ?_
        refine z_i2l (pc := 36) hx hb (by omega) dX4_law_36 ?_
        refine z_lconst0 (pc := 37) hx hb dX4_law_37 ?_
        refine z_ldc2 (pc := 38) hx hb (2) hown (hT _ tw_408) (by decide) dX4_law_38 ?_
        refine rd_S (pc := 41) hx hb hml hown hT hK (c_X4_in D cI cJ l (w) (by omega) (0) (by omega) (2) (by omega)) ca_X4_in tw_400 va_Pnil ⟨Nat.le_of_ble_eq_true rfl, Nat.le_of_ble_eq_true rfl⟩ rfl hl.1 (As := [.long (zj (w)), .long (zj (0)), .long (zj (2))]) (rest := []) rfl (Nat.le_of_ble_eq_true rfl) ⟨Nat.le_of_ble_eq_true rfl, Nat.le_of_ble_eq_true rfl⟩ dX4_law_41 ?_
        refine z_ifB_ne (tgt := 51) (pc := 44) hx hb dX4_law_44 (by decide) (fun c_4 => ?_) (fun c_4 => ?_)
        · refine lv_aload_n (pc := 51) hx hb dX4_law_51 rfl (lv_at hl 0 rfl) ?_
          refine wr_V (pc := 52) hx hb hml hown hT hK (c_X4_findHalves D cI cJ l ad n st hr ca sp k ts th pr hc lu ll up lo fr rr hv hU) ca_X4_findHalves tw_532 hP hD hS (fun q h => inW_same (by rfl) h) 0 4 rfl rfl rfl ⟨Nat.le_of_ble_eq_true rfl, Nat.le_of_ble_eq_true rfl⟩ rfl hl.1 (As := []) (rest := []) rfl (Nat.le_of_ble_eq_true rfl) ⟨Nat.le_of_ble_eq_true rfl, Nat.le_of_ble_eq_true rfl⟩ dX4_law_52 (fun v_ ws_ H locs hΦ hP hz_ hk_ hS => ?_)
          obtain ⟨rfl, lu_5, ll_5, up_5, lo_5, fr_5, rr_5, hv_5, hH_5, rfl⟩ := hΦ
          replace hD : va_D (inW (wM ad cI n st hr ca sp k ts th pr hc lu ll up lo fr rr hv)) (wM ad cI n st hr ca sp k ts th pr hc lu_5 ll_5 up_5 lo_5 fr_5 rr_5 hv_5) := hD.same rfl
          refine z_ifB_ne (tgt := 62) (pc := 55) hx hb dX4_law_55 (by decide) (fun c_6 => ?_) (fun c_6 => ?_)
          · have hok : ((1 ≤ b ∧ b ≤ 100000) ∧ (0 ≤ d ∧ d ≤ 1000)) ∧ b + 9 * d ≤ 100000 ∧ (0 ≤ w ∧ w ≤ 2) := by omega
            have inner : ∀ (z7 : Int) (u : Nat), z7 = (u : Int) → u < 10 → (∀ z4 z5 z6 : Int, ((20 * (u + 1) = 0 ∧ z6 = -1) ∨ (20 * (u + 1) ≠ 0 ∧ LW (hvF n st hr ca) b d (20 * (u + 1)) = (z4, z5, z6))) → ∀ ls : Array Slot, lv_has ls 10 [(0, .ref (ad 0)), (1, .int (zi (b))), (2, .int (zi (d))), (3, .int (zi (w))), (4, .int (zi (z4))), (5, .int (zi (z5))), (6, .int (zi (z6))), (7, .int (zi (z7)))] → W p l e (RM 5 118) s m args below meth c H locs 0 0 (MQ below (QW D (wM ad cI n st hr ca sp k ts th pr hc lu ll up lo fr rr hv) (fun v' ws' => v' = .int (zi (lawV n st hr ca b d w)) ∧ ∃ (lu' ll' up' lo' : Int) (fr' rr' hv' : Nat → Int), ws' = (wM ad cI n st hr ca sp k ts th pr hc lu' ll' up' lo' fr' rr' hv'))) args s 0 0 (inW (wM ad cI n st hr ca sp k ts th pr hc lu ll up lo fr rr hv))) (F0 m 139 ls [])) → ∀ v : Nat, v ≤ 20 → ∀ (z4 z5 z6 z8 : Int), ((20 * u + v = 0 ∧ z6 = -1) ∨ (20 * u + v ≠ 0 ∧ LW (hvF n st hr ca) b d (20 * u + v) = (z4, z5, z6))) → (z8 = (v : Int) + 1) → ∀ ls : Array Slot, lv_has ls 10 [(0, .ref (ad 0)), (1, .int (zi (b))), (2, .int (zi (d))), (3, .int (zi (w))), (4, .int (zi (z4))), (5, .int (zi (z5))), (6, .int (zi (z6))), (7, .int (zi (z7))), (8, .int (zi (z8)))] → W p l e (RM 5 118) s m args below meth c H locs 0 0 (MQ below (QW D (wM ad cI n st hr ca sp k ts th pr hc lu ll up lo fr rr hv) (fun v' ws' => v' = .int (zi (lawV n st hr ca b d w)) ∧ ∃ (lu' ll' up' lo' : Int) (fr' rr' hv' : Nat → Int), ws' = (wM ad cI n st hr ca sp k ts th pr hc lu' ll' up' lo' fr' rr' hv'))) args s 0 0 (inW (wM ad cI n st hr ca sp k ts th pr hc lu ll up lo fr rr hv))) (F0 m 84 ls []) := by
              intro z7 u e7 hu hex
              refine lp_up (fun v => ∀ (z4 z5 z6 z8 : Int), ((20 * u + v = 0 ∧ z6 = -1) ∨ (20 * u + v ≠ 0 ∧ LW (hvF n st hr ca) b d (20 * u + v) = (z4, z5, z6))) → (z8 = (v : Int) + 1) → ∀ ls : Array Slot, lv_has ls 10 [(0, .ref (ad 0)), (1, .int (zi (b))), (2, .int (zi (d))), (3, .int (zi (w))), (4, .int (zi (z4))), (5, .int (zi (z5))), (6, .int (zi (z6))), (7, .int (zi (z7))), (8, .int (zi (z8)))] → W p l e (RM 5 118) s m args below meth c H locs 0 0 (MQ below (QW D (wM ad cI n st hr ca sp k ts th pr hc lu ll up lo fr rr hv) (fun v' ws' => v' = .int (zi (lawV n st hr ca b d w)) ∧ ∃ (lu' ll' up' lo' : Int) (fr' rr' hv' : Nat → Int), ws' = (wM ad cI n st hr ca sp k ts th pr hc lu' ll' up' lo' fr' rr' hv'))) args s 0 0 (inW (wM ad cI n st hr ca sp k ts th pr hc lu ll up lo fr rr hv))) (F0 m 84 ls [])) (20) ?_ ?_
              · intro z4 z5 z6 z8 e1 e8 ls hl
                refine lv_iload (pc := 84) hx hb dX4_law_84 (lv_at hl 8 rfl) ?_
                refine z_bipush (pc := 86) hx hb dX4_law_86 (by decide) ?_
                refine z_icmp_ge (tgt := 139) (pc := 88) hx hb dX4_law_88 (by decide) (by omega) (by omega) (fun c_7 => ?_) (fun c_7 => absurd c_7 (by omega))
                exact hex _ _ _ (by rw [show 20 * (u + 1) = 20 * u + 20 by omega]; exact e1) ls (lv_sub hl [0, 1, 2, 3, 4, 5, 6, 7] rfl)
              · intro v hv ih z4 z5 z6 z8 e1 e8 ls hl
                refine lv_iload (pc := 84) hx hb dX4_law_84 (lv_at hl 8 rfl) ?_
                refine z_bipush (pc := 86) hx hb dX4_law_86 (by decide) ?_
                refine z_icmp_ge (tgt := 139) (pc := 88) hx hb dX4_law_88 (by decide) (by omega) (by omega) (fun c_8 => absurd c_8 (by omega)) (fun c_8 => ?_)
                have hzd : 0 ≤ z7 * d ∧ z7 * d ≤ 9 * d := ⟨Int.mul_nonneg (by omega) (by omega), Int.mul_le_mul_of_nonneg_right (by omega) (by omega)⟩
                have hmr := msZ_rng (hvF_rng n st hr ca) (b := b + z7 * d) (s_ := z8) (by omega) (by omega) 4
                have hlr := LW_rng (hvF_rng n st hr ca) (b := b) (d := d) (by omega) (20 * u + v) (by omega)
                have hz6 : -1 ≤ z6 ∧ z6 ≤ 402004 ∧ (z6 < 0 → 20 * u + v = 0) ∧ (¬ z6 < 0 → LW (hvF n st hr ca) b d (20 * u + v) = (z4, z5, z6)) := by
                  rcases e1 with ⟨q1, q2⟩ | ⟨q1, q2⟩
                  · exact ⟨by omega, by omega, fun _ => q1, fun q => absurd q (by omega)⟩
                  · rw [q2] at hlr
                    simp only at hlr
                    exact ⟨by omega, by omega, fun q => absurd q (by omega), fun _ => q2⟩
                refine lv_aload_n (pc := 91) hx hb dX4_law_91 rfl (lv_at hl 0 rfl) ?_
                refine lv_iload_n (pc := 92) hx hb dX4_law_92 rfl (lv_at hl 1 rfl) ?_
                refine lv_iload (pc := 93) hx hb dX4_law_93 (lv_at hl 7 rfl) ?_
                refine lv_iload_n (pc := 95) hx hb dX4_law_95 rfl (lv_at hl 2 rfl) ?_
                refine z_imul (pc := 96) hx hb dX4_law_96 ?_
                refine z_iadd (pc := 97) hx hb dX4_law_97 ?_
                refine lv_iload (pc := 98) hx hb dX4_law_98 (lv_at hl 8 rfl) ?_
                refine rd_V (pc := 100) hx hb hml hown hT hK (c_X4_missOf D cI cJ l ad n st hr ca sp k ts th pr hc lu_5 ll_5 up_5 lo_5 fr_5 rr_5 hv_5 (hvF n st hr ca) (hvF_rng n st hr ca) hH_5 ((b + (z7 * d))) (z8) (by omega)) ca_X4_missOf tw_536 hP 0 4 rfl rfl rfl ⟨Nat.le_of_ble_eq_true rfl, Nat.le_of_ble_eq_true rfl⟩ rfl hl.1 (As := [.int (zi ((b + (z7 * d)))), .int (zi (z8))]) (rest := []) rfl (Nat.le_of_ble_eq_true rfl) ⟨Nat.le_of_ble_eq_true rfl, Nat.le_of_ble_eq_true rfl⟩ dX4_law_100 ?_
                refine lv_istore (lv' := [(9, .int (zi ((msZ (hvF n st hr ca) ((b + (z7 * d))) (z8) 4)))), (0, .ref (ad 0)), (1, .int (zi (b))), (2, .int (zi (d))), (3, .int (zi (w))), (4, .int (zi (z4))), (5, .int (zi (z5))), (6, .int (zi (z6))), (7, .int (zi (z7))), (8, .int (zi (z8)))]) (pc := 103) hx hb dX4_law_103 hl (by decide) rfl (fun ls hl => ?_)
                refine lv_iload (pc := 105) hx hb dX4_law_105 (lv_at hl 7 rfl) ?_
                refine z_if_lt (tgt := 117) (pc := 107) hx hb dX4_law_107 (by decide) (by omega) (fun c_9 => ?_) (fun c_9 => ?_)
                · have hset : (20 * u + (v + 1) = 0 ∧ msZ (hvF n st hr ca) (b + z7 * d) z8 4 = -1) ∨ (20 * u + (v + 1) ≠ 0 ∧ LW (hvF n st hr ca) b d (20 * u + (v + 1)) = (b + z7 * d, z8, msZ (hvF n st hr ca) (b + z7 * d) z8 4)) := by
                    refine Or.inr ⟨by omega, ?_⟩
                    by_cases hz : z6 < 0
                    · have q0 := hz6.2.2.1 hz
                      have hu0 : u = 0 := by omega
                      have hv0 : v = 0 := by omega
                      subst hu0
                      subst hv0
                      rw [e7, e8]
                      exact LW_1 _ _ _
                    · rw [← Nat.add_assoc, LW_s _ _ _ hv, hz6.2.2.2 hz, if_pos (by show msZ _ _ _ _ < z6; rw [← e7, ← e8]; omega), e7, e8]
                  refine lv_iload_n (pc := 117) hx hb dX4_law_117 rfl (lv_at hl 2 rfl) ?_
                  refine lv_iload (pc := 118) hx hb dX4_law_118 (lv_at hl 8 rfl) ?_
                  refine lv_iload_n (pc := 120) hx hb dX4_law_120 rfl (lv_at hl 3 rfl) ?_
                  refine z_imul (pc := 121) hx hb dX4_law_121 ?_
                  refine z_iadd (pc := 122) hx hb dX4_law_122 ?_
                  refine lv_istore (lv' := [(4, .int (zi ((b + (z7 * d))))), (9, .int (zi ((msZ (hvF n st hr ca) ((b + (z7 * d))) (z8) 4)))), (0, .ref (ad 0)), (1, .int (zi (b))), (2, .int (zi (d))), (3, .int (zi (w))), (5, .int (zi (z5))), (6, .int (zi (z6))), (7, .int (zi (z7))), (8, .int (zi (z8)))]) (pc := 123) hx hb dX4_law_123 hl (by decide) rfl (fun ls hl => ?_)
                  refine lv_iload (pc := 125) hx hb dX4_law_125 (lv_at hl 9 rfl) ?_
                  refine lv_istore (lv' := [(5, .int (zi (z8))), (4, .int (zi ((b + (z7 * d))))), (9, .int (zi ((msZ (hvF n st hr ca) ((b + (z7 * d))) (z8) 4)))), (0, .ref (ad 0)), (1, .int (zi (b))), (2, .int (zi (d))), (3, .int (zi (w))), (6, .int (zi (z6))), (7, .int (zi (z7))), (8, .int (zi (z8)))]) (pc := 127) hx hb dX4_law_127 hl (by decide) rfl (fun ls hl => ?_)
                  refine lv_iload (pc := 129) hx hb dX4_law_129 (lv_at hl 2 rfl) ?_
                  refine lv_istore (lv' := [(6, .int (zi ((msZ (hvF n st hr ca) ((b + (z7 * d))) (z8) 4)))), (5, .int (zi (z8))), (4, .int (zi ((b + (z7 * d))))), (9, .int (zi ((msZ (hvF n st hr ca) ((b + (z7 * d))) (z8) 4)))), (0, .ref (ad 0)), (1, .int (zi (b))), (2, .int (zi (d))), (3, .int (zi (w))), (7, .int (zi (z7))), (8, .int (zi (z8)))]) (pc := 131) hx hb dX4_law_131 hl (by decide) rfl (fun ls hl => ?_)
                  refine lv_iinc (v := zi (z8 + 1)) (lv' := [(8, .int (zi ((z8 + 1)))), (6, .int (zi ((msZ (hvF n st hr ca) ((b + (z7 * d))) (z8) 4)))), (5, .int (zi (z8))), (4, .int (zi ((b + (z7 * d))))), (9, .int (zi ((msZ (hvF n st hr ca) ((b + (z7 * d))) (z8) 4)))), (0, .ref (ad 0)), (1, .int (zi (b))), (2, .int (zi (d))), (3, .int (zi (w))), (7, .int (zi (z7)))]) (pc := 133) hx hb dX4_law_133 hl (k := 9) rfl (zi_add _ _) (by decide) rfl (fun ls hl => ?_)
                  refine lv_goto (tgt := 84) (pc := 136) hx hb dX4_law_136 (by decide) ?_
                  exact ih  _ _ _ _ (hset) (by omega) ls (lv_sub hl [5, 6, 7, 8, 3, 2, 1, 9, 0] rfl)
                · refine lv_iload (pc := 110) hx hb dX4_law_110 (lv_at hl 0 rfl) ?_
                  refine lv_iload (pc := 112) hx hb dX4_law_112 (lv_at hl 7 rfl) ?_
                  refine z_icmp_ge (tgt := 133) (pc := 114) hx hb dX4_law_114 (by decide) (by omega) (by omega) (fun c_10 => ?_) (fun c_10 => ?_)
                  · have hkeep : (20 * u + (v + 1) = 0 ∧ z6 = -1) ∨ (20 * u + (v + 1) ≠ 0 ∧ LW (hvF n st hr ca) b d (20 * u + (v + 1)) = (z4, z5, z6)) := by
                      refine Or.inr ⟨by omega, ?_⟩
                      rw [← Nat.add_assoc, LW_s _ _ _ hv, hz6.2.2.2 (by omega), if_neg (by show ¬ msZ _ _ _ _ < z6; rw [← e7, ← e8]; omega)]
                    refine lv_iinc (v := zi (z8 + 1)) (lv' := [(8, .int (zi ((z8 + 1)))), (9, .int (zi ((msZ (hvF n st hr ca) ((b + (z7 * d))) (z8) 4)))), (0, .ref (ad 0)), (1, .int (zi (b))), (2, .int (zi (d))), (3, .int (zi (w))), (4, .int (zi (z4))), (5, .int (zi (z5))), (6, .int (zi (z6))), (7, .int (zi (z7)))]) (pc := 133) hx hb dX4_law_133 hl (k := 9) rfl (zi_add _ _) (by decide) rfl (fun ls hl => ?_)
                    refine lv_goto (tgt := 84) (pc := 136) hx hb dX4_law_136 (by decide) ?_
                    exact ih  _ _ _ _ (hkeep) (by omega) ls (lv_sub hl [2, 3, 4, 5, 6, 7, 8, 9, 0] rfl)
                  · have hset : (20 * u + (v + 1) = 0 ∧ msZ (hvF n st hr ca) (b + z7 * d) z8 4 = -1) ∨ (20 * u + (v + 1) ≠ 0 ∧ LW (hvF n st hr ca) b d (20 * u + (v + 1)) = (b + z7 * d, z8, msZ (hvF n st hr ca) (b + z7 * d) z8 4)) := by
                      refine Or.inr ⟨by omega, ?_⟩
                      by_cases hz : z6 < 0
                      · have q0 := hz6.2.2.1 hz
                        have hu0 : u = 0 := by omega
                        have hv0 : v = 0 := by omega
                        subst hu0
                        subst hv0
                        rw [e7, e8]
                        exact LW_1 _ _ _
                      · rw [← Nat.add_assoc, LW_s _ _ _ hv, hz6.2.2.2 hz, if_pos (by show msZ _ _ _ _ < z6; rw [← e7, ← e8]; omega), e7, e8]
                    refine lv_iload_n (pc := 117) hx hb dX4_law_117 rfl (lv_at hl 2 rfl) ?_
                    refine lv_iload (pc := 118) hx hb dX4_law_118 (lv_at hl 8 rfl) ?_
                    refine lv_iload_n (pc := 120) hx hb dX4_law_120 rfl (lv_at hl 3 rfl) ?_
                    refine z_imul (pc := 121) hx hb dX4_law_121 ?_
                    refine z_iadd (pc := 122) hx hb dX4_law_122 ?_
                    refine lv_istore (lv' := [(4, .int (zi ((b + (z7 * d))))), (9, .int (zi ((msZ (hvF n st hr ca) ((b + (z7 * d))) (z8) 4)))), (0, .ref (ad 0)), (1, .int (zi (b))), (2, .int (zi (d))), (3, .int (zi (w))), (5, .int (zi (z5))), (6, .int (zi (z6))), (7, .int (zi (z7))), (8, .int (zi (z8)))]) (pc := 123) hx hb dX4_law_123 hl (by decide) rfl (fun ls hl => ?_)
                    refine lv_iload (pc := 125) hx hb dX4_law_125 (lv_at hl 9 rfl) ?_
                    refine lv_istore (lv' := [(5, .int (zi (z8))), (4, .int (zi ((b + (z7 * d))))), (9, .int (zi ((msZ (hvF n st hr ca) ((b + (z7 * d))) (z8) 4)))), (0, .ref (ad 0)), (1, .int (zi (b))), (2, .int (zi (d))), (3, .int (zi (w))), (6, .int (zi (z6))), (7, .int (zi (z7))), (8, .int (zi (z8)))]) (pc := 127) hx hb dX4_law_127 hl (by decide) rfl (fun ls hl => ?_)
                    refine lv_iload (pc := 129) hx hb dX4_law_129 (lv_at hl 2 rfl) ?_
                    refine lv_istore (lv' := [(6, .int (zi ((msZ (hvF n st hr ca) ((b + (z7 * d))) (z8) 4)))), (5, .int (zi (z8))), (4, .int (zi ((b + (z7 * d))))), (9, .int (zi ((msZ (hvF n st hr ca) ((b + (z7 * d))) (z8) 4)))), (0, .ref (ad 0)), (1, .int (zi (b))), (2, .int (zi (d))), (3, .int (zi (w))), (7, .int (zi (z7))), (8, .int (zi (z8)))]) (pc := 131) hx hb dX4_law_131 hl (by decide) rfl (fun ls hl => ?_)
                    refine lv_iinc (v := zi (z8 + 1)) (lv' := [(8, .int (zi ((z8 + 1)))), (6, .int (zi ((msZ (hvF n st hr ca) ((b + (z7 * d))) (z8) 4)))), (5, .int (zi (z8))), (4, .int (zi ((b + (z7 * d))))), (9, .int (zi ((msZ (hvF n st hr ca) ((b + (z7 * d))) (z8) 4)))), (0, .ref (ad 0)), (1, .int (zi (b))), (2, .int (zi (d))), (3, .int (zi (w))), (7, .int (zi (z7)))]) (pc := 133) hx hb dX4_law_133 hl (k := 9) rfl (zi_add _ _) (by decide) rfl (fun ls hl => ?_)
                    refine lv_goto (tgt := 84) (pc := 136) hx hb dX4_law_136 (by decide) ?_
                    exact ih  _ _ _ _ (hset) (by omega) ls (lv_sub hl [5, 6, 7, 8, 3, 2, 1, 9, 0] rfl)
            have outer : ∀ u : Nat, u ≤ 10 → ∀ (z4 z5 z6 z7 : Int), ((20 * u = 0 ∧ z6 = -1) ∨ (20 * u ≠ 0 ∧ LW (hvF n st hr ca) b d (20 * u) = (z4, z5, z6))) → (z7 = (u : Int)) → ∀ ls : Array Slot, lv_has ls 10 [(0, .ref (ad 0)), (1, .int (zi (b))), (2, .int (zi (d))), (3, .int (zi (w))), (4, .int (zi (z4))), (5, .int (zi (z5))), (6, .int (zi (z6))), (7, .int (zi (z7)))] → W p l e (RM 5 118) s m args below meth c H locs 0 0 (MQ below (QW D (wM ad cI n st hr ca sp k ts th pr hc lu ll up lo fr rr hv) (fun v' ws' => v' = .int (zi (lawV n st hr ca b d w)) ∧ ∃ (lu' ll' up' lo' : Int) (fr' rr' hv' : Nat → Int), ws' = (wM ad cI n st hr ca sp k ts th pr hc lu' ll' up' lo' fr' rr' hv'))) args s 0 0 (inW (wM ad cI n st hr ca sp k ts th pr hc lu ll up lo fr rr hv))) (F0 m 74 ls []) := by
              refine lp_up (fun u => ∀ (z4 z5 z6 z7 : Int), ((20 * u = 0 ∧ z6 = -1) ∨ (20 * u ≠ 0 ∧ LW (hvF n st hr ca) b d (20 * u) = (z4, z5, z6))) → (z7 = (u : Int)) → ∀ ls : Array Slot, lv_has ls 10 [(0, .ref (ad 0)), (1, .int (zi (b))), (2, .int (zi (d))), (3, .int (zi (w))), (4, .int (zi (z4))), (5, .int (zi (z5))), (6, .int (zi (z6))), (7, .int (zi (z7)))] → W p l e (RM 5 118) s m args below meth c H locs 0 0 (MQ below (QW D (wM ad cI n st hr ca sp k ts th pr hc lu ll up lo fr rr hv) (fun v' ws' => v' = .int (zi (lawV n st hr ca b d w)) ∧ ∃ (lu' ll' up' lo' : Int) (fr' rr' hv' : Nat → Int), ws' = (wM ad cI n st hr ca sp k ts th pr hc lu' ll' up' lo' fr' rr' hv'))) args s 0 0 (inW (wM ad cI n st hr ca sp k ts th pr hc lu ll up lo fr rr hv))) (F0 m 74 ls [])) (10) ?_ ?_
              · intro z4 z5 z6 z7 e1 e7 ls hl
                have e1 : LW (hvF n st hr ca) b d 200 = (z4, z5, z6) := by
                  rcases e1 with ⟨q1, q2⟩ | ⟨q1, q2⟩
                  · exact absurd q1 (by omega)
                  · exact q2
                refine lv_iload (pc := 74) hx hb dX4_law_74 (lv_at hl 7 rfl) ?_
                refine z_bipush (pc := 76) hx hb dX4_law_76 (by decide) ?_
                refine z_icmp_ge (tgt := 145) (pc := 78) hx hb dX4_law_78 (by decide) (by omega) (by omega) (fun c_11 => ?_) (fun c_11 => absurd c_11 (by omega))
                refine lv_iload_n (pc := 145) hx hb dX4_law_145 rfl (lv_at hl 3 rfl) ?_
                refine z_if_ne (tgt := 154) (pc := 146) hx hb dX4_law_146 (by decide) (by omega) (fun c_12 => ?_) (fun c_12 => ?_)
                · refine lv_iload_n (pc := 154) hx hb dX4_law_154 rfl (lv_at hl 3 rfl) ?_
                  refine z_iconst (pc := 155) hx hb dX4_law_155 ?_
                  refine z_icmp_ne (tgt := 164) (pc := 156) hx hb dX4_law_156 (by decide) (by omega) (by omega) (fun c_13 => ?_) (fun c_13 => ?_)
                  · refine lv_iload (pc := 164) hx hb dX4_law_164 (lv_at hl 6 rfl) ?_
                    exact wr_iret hx hb hrt hlk dX4_law_166 hP hS (⟨by rw [lawV, if_pos hok, if_neg (by assumption), if_neg (by omega), if_neg (by omega), e1], _, _, _, _, _, _, _, rfl⟩)
                  · refine lv_iload (pc := 159) hx hb dX4_law_159 (lv_at hl 5 rfl) ?_
                    refine lv_goto (tgt := 166) (pc := 161) hx hb dX4_law_161 (by decide) ?_
                    exact wr_iret hx hb hrt hlk dX4_law_166 hP hS (⟨by rw [lawV, if_pos hok, if_neg (by assumption), if_neg (by omega), if_pos (by omega), e1], _, _, _, _, _, _, _, rfl⟩)
                · refine lv_iload (pc := 149) hx hb dX4_law_149 (lv_at hl 4 rfl) ?_
                  refine lv_goto (tgt := 166) (pc := 151) hx hb dX4_law_151 (by decide) ?_
                  exact wr_iret hx hb hrt hlk dX4_law_166 hP hS (⟨by rw [lawV, if_pos hok, if_neg (by assumption), if_pos (by omega), e1], _, _, _, _, _, _, _, rfl⟩)
              · intro u hu ih z4 z5 z6 z7 e1 e7 ls hl
                refine lv_iload (pc := 74) hx hb dX4_law_74 (lv_at hl 7 rfl) ?_
                refine z_bipush (pc := 76) hx hb dX4_law_76 (by decide) ?_
                refine z_icmp_ge (tgt := 145) (pc := 78) hx hb dX4_law_78 (by decide) (by omega) (by omega) (fun c_14 => absurd c_14 (by omega)) (fun c_14 => ?_)
                refine z_iconst (pc := 81) hx hb dX4_law_81 ?_
                refine lv_istore (lv' := [(8, .int (zi (1))), (0, .ref (ad 0)), (1, .int (zi (b))), (2, .int (zi (d))), (3, .int (zi (w))), (4, .int (zi (z4))), (5, .int (zi (z5))), (6, .int (zi (z6))), (7, .int (zi (z7)))]) (pc := 82) hx hb dX4_law_82 hl (by decide) rfl (fun ls hl => ?_)
                refine inner _ u e7 (by omega) ?_ 0 (by omega) _ _ _ _ e1 (by omega) ls (lv_sub hl [1, 2, 3, 4, 5, 6, 7, 8, 0] rfl)
                intro z4 z5 z6 hq9 ls hl
                refine lv_iinc (v := zi (z7 + 1)) (lv' := [(7, .int (zi ((z7 + 1)))), (0, .ref (ad 0)), (1, .int (zi (b))), (2, .int (zi (d))), (3, .int (zi (w))), (4, .int (zi (z4))), (5, .int (zi (z5))), (6, .int (zi (z6)))]) (pc := 139) hx hb dX4_law_139 hl (k := 7) rfl (zi_add _ _) (by decide) rfl (fun ls hl => ?_)
                refine lv_goto (tgt := 74) (pc := 142) hx hb dX4_law_142 (by decide) ?_
                exact ih  _ _ _ _ (hq9) (by omega) ls (lv_sub hl [1, 2, 3, 4, 5, 6, 7, 0] rfl)
            refine z_iconst (pc := 62) hx hb dX4_law_62 ?_
            refine lv_istore (lv' := [(4, .int (zi (0))), (0, .ref (ad 0)), (1, .int (zi (b))), (2, .int (zi (d))), (3, .int (zi (w)))]) (pc := 63) hx hb dX4_law_63 hl (by decide) rfl (fun ls hl => ?_)
            refine z_iconst (pc := 65) hx hb dX4_law_65 ?_
            refine lv_istore (lv' := [(5, .int (zi (0))), (4, .int (zi (0))), (0, .ref (ad 0)), (1, .int (zi (b))), (2, .int (zi (d))), (3, .int (zi (w)))]) (pc := 66) hx hb dX4_law_66 hl (by decide) rfl (fun ls hl => ?_)
            refine z_iconst (pc := 68) hx hb dX4_law_68 ?_
            refine lv_istore (lv' := [(6, .int (zi (-1))), (5, .int (zi (0))), (4, .int (zi (0))), (0, .ref (ad 0)), (1, .int (zi (b))), (2, .int (zi (d))), (3, .int (zi (w)))]) (pc := 69) hx hb dX4_law_69 hl (by decide) rfl (fun ls hl => ?_)
            refine z_iconst (pc := 71) hx hb dX4_law_71 ?_
            refine lv_istore (lv' := [(7, .int (zi (0))), (6, .int (zi (-1))), (5, .int (zi (0))), (4, .int (zi (0))), (0, .ref (ad 0)), (1, .int (zi (b))), (2, .int (zi (d))), (3, .int (zi (w)))]) (pc := 72) hx hb dX4_law_72 hl (by decide) rfl (fun ls hl => ?_)
            exact outer 0 (by omega) _ _ _ _ (Or.inl ⟨rfl, rfl⟩) (by rfl) ls (lv_sub hl [4, 5, 6, 7, 3, 2, 1, 0] rfl)
          · refine z_sipush (pc := 58) hx hb dX4_law_58 (by decide) ?_
            exact wr_iret hx hb hrt hlk dX4_law_61 hP hS (⟨by rw [lawV, if_pos (by omega), if_pos (by omega)], _, _, _, _, _, _, _, rfl⟩)
        · refine z_sipush (pc := 47) hx hb dX4_law_47 (by decide) ?_
          exact wr_iret hx hb hrt hlk dX4_law_50 hP hS (⟨by rw [lawV, if_neg (by omega)], lu, ll, up, lo, fr, rr, hv, rfl⟩)
