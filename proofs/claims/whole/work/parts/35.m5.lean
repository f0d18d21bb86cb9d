set_option maxHeartbeats 4000000 in
set_option maxRecDepth 100000 in
theorem c_X4_lay (D : va_G) (cI cJ : ClassId) (l : Launch) (ad : Nat → Nat) (n : Int) (st hr ca sp : Nat → Int) (k : Int) (ts th : Nat → Int) (pr hc lu ll up lo : Int) (fr rr hv : Nat → Int) (hU : VU n st hr ca) (S : Int) (hS0 : 0 ≤ S ∧ S ≤ 15) (b : Int) (r_b : -1 ≤ b ∧ b ≤ 2) : WV D cI cJ l yX4_lay cX4_lay 4 2 48 [.ref (ad 0), .int (zi (S)), .int (zi (b))] (wM ad cI n st hr ca sp k ts th pr hc lu ll up lo fr rr hv) (fun ws' => ∃ fr' rr' : Nat → Int, HRW (FF n st hr ca S b) (RR n st hr S) fr' rr' ∧ ws' = (wM ad cI n st hr ca sp k ts th pr hc lu ll up lo fr' rr' hv)) := by
  refine WV.of (by decide) (Nat.le_of_ble_eq_true rfl) ?_
  intro p e s m args below meth c hx hb hrt hml hown hT hlk hK hP hD hS ls hl
  replace hl : lv_has ls 4 [(0, .ref (ad 0)), (1, .int (zi (S))), (2, .int (zi (b)))] := hl
  obtain ⟨hn, hst, hhr, hh1, hca⟩ := id hU
  have loop2 : ∀ u : Nat, u ≤ n.toNat → ∀ (z3 : Int), ∀ (fw : Nat → Int) (rw_ : Nat → Int) (H : Heap) (locs : List Loc), (LY (FF n st hr ca S b) (RR n st hr S) st hr S u fw rw_) → (z3 = (u : Int)) → va_P D vwCl (wM ad cI n st hr ca sp k ts th pr hc lu ll up lo fw rw_ hv) H → va_D (inW (wM ad cI n st hr ca sp k ts th pr hc lu ll up lo fr rr hv)) (wM ad cI n st hr ca sp k ts th pr hc lu ll up lo fw rw_ hv) → va_S (inW (wM ad cI n st hr ca sp k ts th pr hc lu ll up lo fr rr hv)) s.heap H locs → ∀ ls : Array Slot, lv_has ls 4 [(0, .ref (ad 0)), (1, .int (zi (S))), (2, .int (zi (b))), (3, .int (zi (z3)))] → W p l e (RM 2 48) s m args below meth c H locs 0 0 (MQ below (QV D (wM ad cI n st hr ca sp k ts th pr hc lu ll up lo fr rr hv) (fun ws' => ∃ fr' rr' : Nat → Int, HRW (FF n st hr ca S b) (RR n st hr S) fr' rr' ∧ ws' = (wM ad cI n st hr ca sp k ts th pr hc lu ll up lo fr' rr' hv))) args s 0 0 (inW (wM ad cI n st hr ca sp k ts th pr hc lu ll up lo fr rr hv))) (F0 m 31 ls []) := by
    refine lp_up (fun u => ∀ (z3 : Int), ∀ (fw : Nat → Int) (rw_ : Nat → Int) (H : Heap) (locs : List Loc), (LY (FF n st hr ca S b) (RR n st hr S) st hr S u fw rw_) → (z3 = (u : Int)) → va_P D vwCl (wM ad cI n st hr ca sp k ts th pr hc lu ll up lo fw rw_ hv) H → va_D (inW (wM ad cI n st hr ca sp k ts th pr hc lu ll up lo fr rr hv)) (wM ad cI n st hr ca sp k ts th pr hc lu ll up lo fw rw_ hv) → va_S (inW (wM ad cI n st hr ca sp k ts th pr hc lu ll up lo fr rr hv)) s.heap H locs → ∀ ls : Array Slot, lv_has ls 4 [(0, .ref (ad 0)), (1, .int (zi (S))), (2, .int (zi (b))), (3, .int (zi (z3)))] → W p l e (RM 2 48) s m args below meth c H locs 0 0 (MQ below (QV D (wM ad cI n st hr ca sp k ts th pr hc lu ll up lo fr rr hv) (fun ws' => ∃ fr' rr' : Nat → Int, HRW (FF n st hr ca S b) (RR n st hr S) fr' rr' ∧ ws' = (wM ad cI n st hr ca sp k ts th pr hc lu ll up lo fr' rr' hv))) args s 0 0 (inW (wM ad cI n st hr ca sp k ts th pr hc lu ll up lo fr rr hv))) (F0 m 31 ls [])) (n.toNat) ?_ ?_
    · intro z3 fw rw_ H locs e1 e3 hP hD hS ls hl
      refine lv_iload_n (pc := 31) hx hb dX4_lay_31 rfl (lv_at hl 3 rfl) ?_
      refine lv_aload_n (pc := 32) hx hb dX4_lay_32 rfl (lv_at hl 0 rfl) ?_
      refine va_get (D := D) (cl := vwCl) (ci := 4) (v := .int (zi (n))) (C := RX4) (T := TX4) (N := 17) (pc := 33) hx hb hT inT4 hown hK.1 hP 0 rfl rfl 0 (by decide) (hT _ tw_337) (fun _ h9 => h9) rfl dX4_lay_33 ?_
      refine z_icmp_ge (tgt := 113) (pc := 36) hx hb dX4_lay_36 (by decide) (by omega) (by omega) (fun c_1 => ?_) (fun c_1 => absurd c_1 (by omega))
      exact wv_ret hx hb hrt hlk dX4_lay_113 hP hS (⟨_, _, LY_end e1, rfl⟩)
    · intro u hu ih z3 fw rw_ H locs e1 e3 hP hD hS ls hl
      refine lv_iload_n (pc := 31) hx hb dX4_lay_31 rfl (lv_at hl 3 rfl) ?_
      refine lv_aload_n (pc := 32) hx hb dX4_lay_32 rfl (lv_at hl 0 rfl) ?_
      refine va_get (D := D) (cl := vwCl) (ci := 4) (v := .int (zi (n))) (C := RX4) (T := TX4) (N := 17) (pc := 33) hx hb hT inT4 hown hK.1 hP 0 rfl rfl 0 (by decide) (hT _ tw_337) (fun _ h9 => h9) rfl dX4_lay_33 ?_
      refine z_icmp_ge (tgt := 113) (pc := 36) hx hb dX4_lay_36 (by decide) (by omega) (by omega) (fun c_2 => absurd c_2 (by omega)) (fun c_2 => ?_)
      refine lv_aload_n (pc := 39) hx hb dX4_lay_39 rfl (lv_at hl 0 rfl) ?_
      refine lv_iload_n (pc := 40) hx hb dX4_lay_40 rfl (lv_at hl 3 rfl) ?_
      refine lv_iload_n (pc := 41) hx hb dX4_lay_41 rfl (lv_at hl 1 rfl) ?_
      refine rd_V (pc := 42) hx hb hml hown hT hK (c_X4_isIn D cI cJ l ad n st hr ca sp k ts th pr hc lu ll up lo fw rw_ hv hU (z3) u (by omega) (by omega) (S) (by omega)) ca_X4_isIn tw_438 hP 0 4 rfl rfl rfl ⟨Nat.le_of_ble_eq_true rfl, Nat.le_of_ble_eq_true rfl⟩ rfl hl.1 (As := [.int (zi (z3)), .int (zi (S))]) (rest := []) rfl (Nat.le_of_ble_eq_true rfl) ⟨Nat.le_of_ble_eq_true rfl, Nat.le_of_ble_eq_true rfl⟩ dX4_lay_42 ?_
      refine z_ifB_eq (tgt := 107) (pc := 45) hx hb dX4_lay_45 (by decide) (fun c_3 => ?_) (fun c_3 => ?_)
      · refine lv_iinc (v := zi (z3 + 1)) (lv' := [(3, .int (zi ((z3 + 1)))), (0, .ref (ad 0)), (1, .int (zi (S))), (2, .int (zi (b)))]) (pc := 107) hx hb dX4_lay_107 hl (k := 3) rfl (zi_add _ _) (by decide) rfl (fun ls hl => ?_)
        refine lv_goto (tgt := 31) (pc := 110) hx hb dX4_lay_110 (by decide) ?_
        exact ih  _ _ _ _ _ (by first | exact LY_skip e1 (by assumption) | exact LY_have e1 (hhr u) (by assumption)) (by omega) hP hD hS ls (lv_sub hl [1, 2, 3, 0] rfl)
      · refine lv_aload_n (pc := 48) hx hb dX4_lay_48 rfl (lv_at hl 0 rfl) ?_
        refine va_get (D := D) (cl := vwCl) (ci := 4) (v := .ref (ad 7)) (C := RX4) (T := TX4) (N := 17) (pc := 49) hx hb hT inT4 hown hK.1 hP 0 rfl rfl 14 (by decide) (hT _ tw_351) (fun _ h9 => h9) rfl dX4_lay_49 ?_
        refine lv_aload_n (pc := 52) hx hb dX4_lay_52 rfl (lv_at hl 0 rfl) ?_
        refine va_get (D := D) (cl := vwCl) (ci := 4) (v := .ref (ad 2)) (C := RX4) (T := TX4) (N := 17) (pc := 53) hx hb hT inT4 hown hK.1 hP 0 rfl rfl 2 (by decide) (hT _ tw_339) (fun _ h9 => h9) rfl dX4_lay_53 ?_
        refine lv_iload_n (pc := 56) hx hb dX4_lay_56 rfl (lv_at hl 3 rfl) ?_
        refine z_iald (pc := 57) hx hb hK hP 2 (u) (f := hr) rfl (by omega) (by omega) (by omega) dX4_lay_57 ?_
        have r_4 := hhr (u)
        refine z_iald (pc := 58) hx hb hK hP 7 ((hr u).toNat) (f := fw) rfl (by omega) (by omega) (by omega) dX4_lay_58 ?_
        refine z_if_ne (tgt := 107) (pc := 59) hx hb dX4_lay_59 (by decide) (by have h5 := (e1 (hr u).toNat (by omega)).1; have h6 := (cFl_rng (st := st) (hr := hr) (ca := ca) (S := S) (b := b) (t := ((hr u).toNat : Int)) n.toNat); rw [FF_eq] at h6; omega) (fun c_5 => ?_) (fun c_5 => ?_)
        · refine lv_iinc (v := zi (z3 + 1)) (lv' := [(3, .int (zi ((z3 + 1)))), (0, .ref (ad 0)), (1, .int (zi (S))), (2, .int (zi (b)))]) (pc := 107) hx hb dX4_lay_107 hl (k := 3) rfl (zi_add _ _) (by decide) rfl (fun ls hl => ?_)
          refine lv_goto (tgt := 31) (pc := 110) hx hb dX4_lay_110 (by decide) ?_
          exact ih  _ _ _ _ _ (by first | exact LY_skip e1 (by assumption) | exact LY_have e1 (hhr u) (by assumption)) (by omega) hP hD hS ls (lv_sub hl [1, 2, 3, 0] rfl)
        · refine lv_aload_n (pc := 62) hx hb dX4_lay_62 rfl (lv_at hl 0 rfl) ?_
          refine va_get (D := D) (cl := vwCl) (ci := 4) (v := .ref (ad 7)) (C := RX4) (T := TX4) (N := 17) (pc := 63) hx hb hT inT4 hown hK.1 hP 0 rfl rfl 14 (by decide) (hT _ tw_351) (fun _ h9 => h9) rfl dX4_lay_63 ?_
          refine lv_aload_n (pc := 66) hx hb dX4_lay_66 rfl (lv_at hl 0 rfl) ?_
          refine va_get (D := D) (cl := vwCl) (ci := 4) (v := .ref (ad 2)) (C := RX4) (T := TX4) (N := 17) (pc := 67) hx hb hT inT4 hown hK.1 hP 0 rfl rfl 2 (by decide) (hT _ tw_339) (fun _ h9 => h9) rfl dX4_lay_67 ?_
          refine lv_iload_n (pc := 70) hx hb dX4_lay_70 rfl (lv_at hl 3 rfl) ?_
          refine z_iald (pc := 71) hx hb hK hP 2 (u) (f := hr) rfl (by omega) (by omega) (by omega) dX4_lay_71 ?_
          have r_6 := hhr (u)
          refine lv_aload_n (pc := 72) hx hb dX4_lay_72 rfl (lv_at hl 0 rfl) ?_
          refine lv_iload_n (pc := 73) hx hb dX4_lay_73 rfl (lv_at hl 1 rfl) ?_
          refine lv_iload_n (pc := 74) hx hb dX4_lay_74 rfl (lv_at hl 2 rfl) ?_
          refine lv_aload_n (pc := 75) hx hb dX4_lay_75 rfl (lv_at hl 0 rfl) ?_
          refine va_get (D := D) (cl := vwCl) (ci := 4) (v := .ref (ad 2)) (C := RX4) (T := TX4) (N := 17) (pc := 76) hx hb hT inT4 hown hK.1 hP 0 rfl rfl 2 (by decide) (hT _ tw_339) (fun _ h9 => h9) rfl dX4_lay_76 ?_
          refine lv_iload_n (pc := 79) hx hb dX4_lay_79 rfl (lv_at hl 3 rfl) ?_
          refine z_iald (pc := 80) hx hb hK hP 2 (u) (f := hr) rfl (by omega) (by omega) (by omega) dX4_lay_80 ?_
          have r_7 := hhr (u)
          refine rd_V (pc := 81) hx hb hml hown hT hK (c_X4_failedAt D cI cJ l ad n st hr ca sp k ts th pr hc lu ll up lo fw rw_ hv hU (S) (by omega) (b) (by omega) ((hr (u))) (by omega)) ca_X4_failedAt tw_459 hP 0 4 rfl rfl rfl ⟨Nat.le_of_ble_eq_true rfl, Nat.le_of_ble_eq_true rfl⟩ rfl hl.1 (As := [.int (zi (S)), .int (zi (b)), .int (zi ((hr (u))))]) (rest := [.int (zi ((hr (u)))), .ref (ad 7)]) rfl (Nat.le_of_ble_eq_true rfl) ⟨Nat.le_of_ble_eq_true rfl, Nat.le_of_ble_eq_true rfl⟩ dX4_lay_81 ?_
          refine z_iast (pc := 84) hx hb hK hP hD hS 7 ((hr u).toNat) (f := fw) (x := (cFl st hr ca (S) (b) ((hr (u))) n.toNat)) rfl (by omega) (by omega) (by omega) dX4_lay_84 (fun H locs hP hD hS => ?_)
          replace hP : va_P D vwCl (wM ad cI n st hr ca sp k ts th pr hc lu ll up lo (uZ fw ((hr u).toNat) ((cFl st hr ca (S) (b) ((hr (u))) n.toNat))) rw_ hv) H := hP
          replace hD : va_D (inW (wM ad cI n st hr ca sp k ts th pr hc lu ll up lo fr rr hv)) (wM ad cI n st hr ca sp k ts th pr hc lu ll up lo (uZ fw ((hr u).toNat) ((cFl st hr ca (S) (b) ((hr (u))) n.toNat))) rw_ hv) := hD
          refine lv_aload_n (pc := 85) hx hb dX4_lay_85 rfl (lv_at hl 0 rfl) ?_
          refine va_get (D := D) (cl := vwCl) (ci := 4) (v := .ref (ad 8)) (C := RX4) (T := TX4) (N := 17) (pc := 86) hx hb hT inT4 hown hK.1 hP 0 rfl rfl 15 (by decide) (hT _ tw_352) (fun _ h9 => h9) rfl dX4_lay_86 ?_
          refine lv_aload_n (pc := 89) hx hb dX4_lay_89 rfl (lv_at hl 0 rfl) ?_
          refine va_get (D := D) (cl := vwCl) (ci := 4) (v := .ref (ad 2)) (C := RX4) (T := TX4) (N := 17) (pc := 90) hx hb hT inT4 hown hK.1 hP 0 rfl rfl 2 (by decide) (hT _ tw_339) (fun _ h9 => h9) rfl dX4_lay_90 ?_
          refine lv_iload_n (pc := 93) hx hb dX4_lay_93 rfl (lv_at hl 3 rfl) ?_
          refine z_iald (pc := 94) hx hb hK hP 2 (u) (f := hr) rfl (by omega) (by omega) (by omega) dX4_lay_94 ?_
          have r_8 := hhr (u)
          refine lv_aload_n (pc := 95) hx hb dX4_lay_95 rfl (lv_at hl 0 rfl) ?_
          refine lv_iload_n (pc := 96) hx hb dX4_lay_96 rfl (lv_at hl 1 rfl) ?_
          refine lv_aload_n (pc := 97) hx hb dX4_lay_97 rfl (lv_at hl 0 rfl) ?_
          refine va_get (D := D) (cl := vwCl) (ci := 4) (v := .ref (ad 2)) (C := RX4) (T := TX4) (N := 17) (pc := 98) hx hb hT inT4 hown hK.1 hP 0 rfl rfl 2 (by decide) (hT _ tw_339) (fun _ h9 => h9) rfl dX4_lay_98 ?_
          refine lv_iload_n (pc := 101) hx hb dX4_lay_101 rfl (lv_at hl 3 rfl) ?_
          refine z_iald (pc := 102) hx hb hK hP 2 (u) (f := hr) rfl (by omega) (by omega) (by omega) dX4_lay_102 ?_
          have r_9 := hhr (u)
          refine rd_V (pc := 103) hx hb hml hown hT hK (c_X4_riskAt D cI cJ l ad n st hr ca sp k ts th pr hc lu ll up lo (uZ fw ((hr u).toNat) ((cFl st hr ca (S) (b) ((hr (u))) n.toNat))) rw_ hv hU (S) (by omega) ((hr (u))) (by omega)) ca_X4_riskAt tw_446 hP 0 4 rfl rfl rfl ⟨Nat.le_of_ble_eq_true rfl, Nat.le_of_ble_eq_true rfl⟩ rfl hl.1 (As := [.int (zi (S)), .int (zi ((hr (u))))]) (rest := [.int (zi ((hr (u)))), .ref (ad 8)]) rfl (Nat.le_of_ble_eq_true rfl) ⟨Nat.le_of_ble_eq_true rfl, Nat.le_of_ble_eq_true rfl⟩ dX4_lay_103 ?_
          refine z_iast (pc := 106) hx hb hK hP hD hS 8 ((hr u).toNat) (f := rw_) (x := (cRk st hr (S) ((hr (u))) n.toNat)) rfl (by omega) (by omega) (by omega) dX4_lay_106 (fun H locs hP hD hS => ?_)
          replace hP : va_P D vwCl (wM ad cI n st hr ca sp k ts th pr hc lu ll up lo (uZ fw ((hr u).toNat) ((cFl st hr ca (S) (b) ((hr (u))) n.toNat))) (uZ rw_ ((hr u).toNat) ((cRk st hr (S) ((hr (u))) n.toNat))) hv) H := hP
          replace hD : va_D (inW (wM ad cI n st hr ca sp k ts th pr hc lu ll up lo fr rr hv)) (wM ad cI n st hr ca sp k ts th pr hc lu ll up lo (uZ fw ((hr u).toNat) ((cFl st hr ca (S) (b) ((hr (u))) n.toNat))) (uZ rw_ ((hr u).toNat) ((cRk st hr (S) ((hr (u))) n.toNat))) hv) := hD
          have hF1 := FF_eq n st hr ca S b (hr u).toNat
          have hR1 := RR_eq n st hr S (hr u).toNat
          rw [show (((hr u).toNat : Nat) : Int) = hr u by omega] at hF1 hR1
          have hput : LY (FF n st hr ca S b) (RR n st hr S) st hr S (u + 1) (uZ fw (hr u).toNat (cFl st hr ca S b (hr u) n.toNat)) (uZ rw_ (hr u).toNat (cRk st hr S (hr u) n.toNat)) := by rw [hF1, hR1]; exact LY_put e1 (hhr u)
          refine lv_iinc (v := zi (z3 + 1)) (lv' := [(3, .int (zi ((z3 + 1)))), (0, .ref (ad 0)), (1, .int (zi (S))), (2, .int (zi (b)))]) (pc := 107) hx hb dX4_lay_107 hl (k := 3) rfl (zi_add _ _) (by decide) rfl (fun ls hl => ?_)
          refine lv_goto (tgt := 31) (pc := 110) hx hb dX4_lay_110 (by decide) ?_
          exact ih  _ _ _ _ _ (hput) (by omega) hP hD hS ls (lv_sub hl [1, 2, 3, 0] rfl)
  have loop1 : ∀ u : Nat, u ≤ 501 → ∀ (z3 : Int), ∀ (fw : Nat → Int) (rw_ : Nat → Int) (H : Heap) (locs : List Loc), (∀ t : Nat, t < u → fw t = 0) → (z3 = (u : Int)) → va_P D vwCl (wM ad cI n st hr ca sp k ts th pr hc lu ll up lo fw rw_ hv) H → va_D (inW (wM ad cI n st hr ca sp k ts th pr hc lu ll up lo fr rr hv)) (wM ad cI n st hr ca sp k ts th pr hc lu ll up lo fw rw_ hv) → va_S (inW (wM ad cI n st hr ca sp k ts th pr hc lu ll up lo fr rr hv)) s.heap H locs → ∀ ls : Array Slot, lv_has ls 4 [(0, .ref (ad 0)), (1, .int (zi (S))), (2, .int (zi (b))), (3, .int (zi (z3)))] → W p l e (RM 2 48) s m args below meth c H locs 0 0 (MQ below (QV D (wM ad cI n st hr ca sp k ts th pr hc lu ll up lo fr rr hv) (fun ws' => ∃ fr' rr' : Nat → Int, HRW (FF n st hr ca S b) (RR n st hr S) fr' rr' ∧ ws' = (wM ad cI n st hr ca sp k ts th pr hc lu ll up lo fr' rr' hv))) args s 0 0 (inW (wM ad cI n st hr ca sp k ts th pr hc lu ll up lo fr rr hv))) (F0 m 2 ls []) := by
    refine lp_up (fun u => ∀ (z3 : Int), ∀ (fw : Nat → Int) (rw_ : Nat → Int) (H : Heap) (locs : List Loc), (∀ t : Nat, t < u → fw t = 0) → (z3 = (u : Int)) → va_P D vwCl (wM ad cI n st hr ca sp k ts th pr hc lu ll up lo fw rw_ hv) H → va_D (inW (wM ad cI n st hr ca sp k ts th pr hc lu ll up lo fr rr hv)) (wM ad cI n st hr ca sp k ts th pr hc lu ll up lo fw rw_ hv) → va_S (inW (wM ad cI n st hr ca sp k ts th pr hc lu ll up lo fr rr hv)) s.heap H locs → ∀ ls : Array Slot, lv_has ls 4 [(0, .ref (ad 0)), (1, .int (zi (S))), (2, .int (zi (b))), (3, .int (zi (z3)))] → W p l e (RM 2 48) s m args below meth c H locs 0 0 (MQ below (QV D (wM ad cI n st hr ca sp k ts th pr hc lu ll up lo fr rr hv) (fun ws' => ∃ fr' rr' : Nat → Int, HRW (FF n st hr ca S b) (RR n st hr S) fr' rr' ∧ ws' = (wM ad cI n st hr ca sp k ts th pr hc lu ll up lo fr' rr' hv))) args s 0 0 (inW (wM ad cI n st hr ca sp k ts th pr hc lu ll up lo fr rr hv))) (F0 m 2 ls [])) (501) ?_ ?_
    · intro z3 fw rw_ H locs e1 e3 hP hD hS ls hl
      refine lv_iload_n (pc := 2) hx hb dX4_lay_2 rfl (lv_at hl 3 rfl) ?_
      refine z_sipush (pc := 3) hx hb dX4_lay_3 (by decide) ?_
      refine z_icmp_gt (tgt := 29) (pc := 6) hx hb dX4_lay_6 (by decide) (by omega) (by omega) (fun c_10 => ?_) (fun c_10 => absurd c_10 (by omega))
      refine z_iconst (pc := 29) hx hb dX4_lay_29 ?_
      refine lv_istore_n (lv' := [(3, .int (zi (0))), (0, .ref (ad 0)), (1, .int (zi (S))), (2, .int (zi (b)))]) (pc := 30) hx hb dX4_lay_30 rfl hl (by decide) rfl (fun ls hl => ?_)
      exact loop2 0 (by omega) _ _ _ _ _ (by intro t ht; exact ⟨Or.inl (e1 t (by omega)), fun j hj => absurd hj (by omega)⟩) (by rfl) hP hD hS ls (lv_sub hl [1, 2, 3, 0] rfl)
    · intro u hu ih z3 fw rw_ H locs e1 e3 hP hD hS ls hl
      refine lv_iload_n (pc := 2) hx hb dX4_lay_2 rfl (lv_at hl 3 rfl) ?_
      refine z_sipush (pc := 3) hx hb dX4_lay_3 (by decide) ?_
      refine z_icmp_gt (tgt := 29) (pc := 6) hx hb dX4_lay_6 (by decide) (by omega) (by omega) (fun c_11 => absurd c_11 (by omega)) (fun c_11 => ?_)
      refine lv_aload_n (pc := 9) hx hb dX4_lay_9 rfl (lv_at hl 0 rfl) ?_
      refine va_get (D := D) (cl := vwCl) (ci := 4) (v := .ref (ad 7)) (C := RX4) (T := TX4) (N := 17) (pc := 10) hx hb hT inT4 hown hK.1 hP 0 rfl rfl 14 (by decide) (hT _ tw_351) (fun _ h9 => h9) rfl dX4_lay_10 ?_
      refine lv_iload_n (pc := 13) hx hb dX4_lay_13 rfl (lv_at hl 3 rfl) ?_
      refine z_iconst (pc := 14) hx hb dX4_lay_14 ?_
      refine z_iast (pc := 15) hx hb hK hP hD hS 7 (u) (f := fw) (x := 0) rfl (by omega) (by omega) (by omega) dX4_lay_15 (fun H locs hP hD hS => ?_)
      replace hP : va_P D vwCl (wM ad cI n st hr ca sp k ts th pr hc lu ll up lo (uZ fw (u) (0)) rw_ hv) H := hP
      replace hD : va_D (inW (wM ad cI n st hr ca sp k ts th pr hc lu ll up lo fr rr hv)) (wM ad cI n st hr ca sp k ts th pr hc lu ll up lo (uZ fw (u) (0)) rw_ hv) := hD
      refine lv_aload_n (pc := 16) hx hb dX4_lay_16 rfl (lv_at hl 0 rfl) ?_
      refine va_get (D := D) (cl := vwCl) (ci := 4) (v := .ref (ad 8)) (C := RX4) (T := TX4) (N := 17) (pc := 17) hx hb hT inT4 hown hK.1 hP 0 rfl rfl 15 (by decide) (hT _ tw_352) (fun _ h9 => h9) rfl dX4_lay_17 ?_
      refine lv_iload_n (pc := 20) hx hb dX4_lay_20 rfl (lv_at hl 3 rfl) ?_
      refine z_iconst (pc := 21) hx hb dX4_lay_21 ?_
      refine z_iast (pc := 22) hx hb hK hP hD hS 8 (u) (f := rw_) (x := 0) rfl (by omega) (by omega) (by omega) dX4_lay_22 (fun H locs hP hD hS => ?_)
      replace hP : va_P D vwCl (wM ad cI n st hr ca sp k ts th pr hc lu ll up lo (uZ fw (u) (0)) (uZ rw_ (u) (0)) hv) H := hP
      replace hD : va_D (inW (wM ad cI n st hr ca sp k ts th pr hc lu ll up lo fr rr hv)) (wM ad cI n st hr ca sp k ts th pr hc lu ll up lo (uZ fw (u) (0)) (uZ rw_ (u) (0)) hv) := hD
      refine lv_iinc (v := zi (z3 + 1)) (lv' := [(3, .int (zi ((z3 + 1)))), (0, .ref (ad 0)), (1, .int (zi (S))), (2, .int (zi (b)))]) (pc := 23) hx hb dX4_lay_23 hl (k := 3) rfl (zi_add _ _) (by decide) rfl (fun ls hl => ?_)
      refine lv_goto (tgt := 2) (pc := 26) hx hb dX4_lay_26 (by decide) ?_
      exact ih  _ _ _ _ _ (fun t ht => by rcases Nat.lt_or_ge t u with q | q; exact (by rw [uZ_n (by omega)]; exact e1 t q); exact (by rw [show t = u by omega, uZ_s])) (by omega) hP hD hS ls (lv_sub hl [1, 2, 3, 0] rfl)
  refine z_iconst (pc := 0) hx hb dX4_lay_0 ?_
  refine lv_istore_n (lv' := [(3, .int (zi (0))), (0, .ref (ad 0)), (1, .int (zi (S))), (2, .int (zi (b)))]) (pc := 1) hx hb dX4_lay_1 rfl hl (by decide) rfl (fun ls hl => ?_)
  exact loop1 0 (by omega) _ _ _ _ _ (fun t ht => absurd ht (by omega)) (by rfl) hP hD hS ls (lv_sub hl [1, 2, 3, 0] rfl)

set_option maxHeartbeats 4000000 in
set_option maxRecDepth 100000 in
theorem c_X4_goOn (D : va_G) (cI cJ : ClassId) (l : Launch) (ad : Nat → Nat) (n : Int) (st hr ca sp : Nat → Int) (k : Int) (ts th : Nat → Int) (pr hc lu ll up lo : Int) (fr rr hv : Nat → Int) (F R : Nat → Nat) (hs : STd F R) (hRW : HRW F R fr rr) (z : Int) (B t0 t : Nat) (hz : z = (t : Int)) (hB0 : 0 < lev F R B) (hBt : B ≤ t0) (ht : t ≤ 500) (hcs : t = t0 + 1 ∨ (t = t0 ∧ F t = 0)) (elu : lu = (rdU (lev F R t0) (lev F R B) : Int)) (ell : ll = (rdL (lev F R t0) (lev F R B) : Int)) : WV D cI cJ l yX4_goOn cX4_goOn 6 1 29 [.ref (ad 0), .int (zi (z))] (wM ad cI n st hr ca sp k ts th pr hc lu ll up lo fr rr hv) (fun ws' => ws' = (wM ad cI n st hr ca sp k ts th pr hc ((rdU (lev F R t) (lev F R B) : Int)) ((rdL (lev F R t) (lev F R B) : Int)) up lo fr rr hv)) := by
  subst hz
  refine WV.of (by decide) (Nat.le_of_ble_eq_true rfl) ?_
  intro p e s m args below meth c hx hb hrt hml hown hT hlk hK hP hD hS ls hl
  replace hl : lv_has ls 6 [(0, .ref (ad 0)), (1, .int (zi ((t : Int))))] := hl
  have hrw := hRW t ht
  have hfb : F t ≤ 12 := by have h1 := hs.2.1 t; have h2 := hs.2.2.1 t; omega
  have hlv0 : F t = 0 → lev F R t0 = lev F R t := by
    intro hz
    rcases hcs with hcs | hcs
    · rw [hcs]; exact (lev_same (by omega) (by rw [← hcs]; exact hz)).symm
    · rw [hcs.1]
  refine lv_aload_n (pc := 0) hx hb dX4_goOn_0 rfl (lv_at hl 0 rfl) ?_
  refine va_get (D := D) (cl := vwCl) (ci := 4) (v := .ref (ad 7)) (C := RX4) (T := TX4) (N := 17) (pc := 1) hx hb hT inT4 hown hK.1 hP 0 rfl rfl 14 (by decide) (hT _ tw_351) (fun _ h9 => h9) rfl dX4_goOn_1 ?_
  refine lv_iload_n (pc := 4) hx hb dX4_goOn_4 rfl (lv_at hl 1 rfl) ?_
  refine z_iald (pc := 5) hx hb hK hP 7 (t) (f := fr) rfl (by omega) (by omega) (by omega) dX4_goOn_5 ?_
  refine lv_istore_n (lv' := [(2, .int (zi ((fr (t))))), (0, .ref (ad 0)), (1, .int (zi ((t : Int))))]) (pc := 6) hx hb dX4_goOn_6 rfl hl (by decide) rfl (fun ls hl => ?_)
  refine lv_iload_n (pc := 7) hx hb dX4_goOn_7 rfl (lv_at hl 0 rfl) ?_
  refine z_if_le (tgt := 77) (pc := 8) hx hb dX4_goOn_8 (by decide) (by omega) (fun c_1 => ?_) (fun c_1 => ?_)
  · exact wv_ret hx hb hrt hlk dX4_goOn_77 hP hS (by rw [elu, ell, hlv0 (by omega)])
  · have hF0 : F t ≠ 0 := by omega
    have hrrt := hrw.2 hF0
    have hst := hs.2.1 t
    have hR12 := hs.2.2.1 t
    have ht1 : t = t0 + 1 := by omega
    have eA : lu * (rr t - fr t) = (((rdU (lev F R t0) (lev F R B) * (R t - F t)) : Nat) : Int) := by
      rw [elu, hrrt, hrw.1, show (R t : Int) - (F t : Int) = ((R t - F t : Nat) : Int) by omega]
      rfl
    have eB : ll * rr t = (((rdL (lev F R t0) (lev F R B) * R t) : Nat) : Int) := by
      rw [ell, hrrt]
      rfl
    have hLo := low_left hs hBt (show t0 ≤ 500 by omega) hB0
    have hLp := (rd_back (a := lev F R t0) hB0).2.2.2
    have hUl := rd_le (k := 1) hB0 (show lev F R t0 ≤ 1 * lev F R B by rw [Nat.one_mul]; exact lev_mono hs hBt (by omega))
    have hA1 : (rdU (lev F R t0) (lev F R B) * (R t - F t)) ≤ 599040 * 12 := Nat.mul_le_mul (by omega) (by omega)
    have hB1 : (rdL (lev F R t0) (lev F R B) * R t) ≤ 599040 * 12 := Nat.mul_le_mul (by omega) (by omega)
    have hB2 : 0 < (rdL (lev F R t0) (lev F R B) * R t) := Nat.mul_pos hLp (by omega)
    have hAB : (rdU (lev F R t0) (lev F R B) * (R t - F t)) ≤ 281474976710656 ∧ (rdL (lev F R t0) (lev F R B) * R t) ≤ 281474976710656 := by omega
    have hg0 : 0 < Nat.gcd (rdU (lev F R t0) (lev F R B) * (R t - F t)) (rdL (lev F R t0) (lev F R B) * R t) := Nat.gcd_pos_of_pos_right _ hB2
    have hg1 := Nat.gcd_le_right (rdU (lev F R t0) (lev F R B) * (R t - F t)) hB2
    have hgo := go_eq hs (B := B) (t0 := t0) (by omega) hB0 (by rw [← ht1]; exact hF0)
    rw [← ht1] at hgo
    refine lv_aload_n (pc := 11) hx hb dX4_goOn_11 rfl (lv_at hl 1 rfl) ?_
    refine va_get (D := D) (cl := vwCl) (ci := 4) (v := .ref (ad 8)) (C := RX4) (T := TX4) (N := 17) (pc := 12) hx hb hT inT4 hown hK.1 hP 0 rfl rfl 15 (by decide) (hT _ tw_352) (fun _ h9 => h9) rfl dX4_goOn_12 ?_
    refine lv_iload_n (pc := 15) hx hb dX4_goOn_15 rfl (lv_at hl 2 rfl) ?_
    refine z_iald (pc := 16) hx hb hK hP 8 (t) (f := rr) rfl (by omega) (by omega) (by omega) dX4_goOn_16 ?_
    refine lv_istore_n (lv' := [(3, .int (zi ((rr (t))))), (2, .int (zi ((fr (t))))), (0, .ref (ad 0)), (1, .int (zi ((t : Int))))]) (pc := 17) hx hb dX4_goOn_17 rfl hl (by decide) rfl (fun ls hl => ?_)
    refine lv_aload_n (pc := 18) hx hb dX4_goOn_18 rfl (lv_at hl 2 rfl) ?_
    refine lv_dup (pc := 19) hx hb dX4_goOn_19 rfl ?_
    refine va_get (D := D) (cl := vwCl) (ci := 4) (v := .long (zj (lu))) (C := RX4) (T := TX4) (N := 17) (pc := 20) hx hb hT inT4 hown hK.1 hP 0 rfl rfl 10 (by decide) (hT _ tw_347) (fun _ h9 => h9) rfl dX4_goOn_20 ?_
    refine lv_iload_n (pc := 23) hx hb dX4_goOn_23 rfl (lv_at hl 0 rfl) ?_
    refine lv_iload_n (pc := 24) hx hb dX4_goOn_24 rfl (lv_at hl 1 rfl) ?_
    refine z_isub (pc := 25) hx hb dX4_goOn_25 ?_
    refine z_i2l (pc := 26) hx hb (by omega) dX4_goOn_26 ?_
    refine z_lmul (pc := 27) hx hb dX4_goOn_27 ?_
    refine va_put (D := D) (cl := vwCl) (ci := 4) (v := .long (zj ((lu * ((rr (t)) - (fr (t))))))) (ty := .long) (C := RX4) (T := TX4) (N := 17) (pc := 28) hx hb hT inT4 tyX4 tyX4_ok nmX4 hown hK.1 hP hD hS 0 rfl rfl 10 (by decide) (hT _ tw_347) (fun _ h9 => h9) rfl (by decide +kernel) rfl rfl (Nat.le_of_ble_eq_true rfl) dX4_goOn_28 (fun H locs hP hD hS => ?_)
    replace hP : va_P D vwCl (wM ad cI n st hr ca sp k ts th pr hc ((lu * ((rr (t)) - (fr (t))))) ll up lo fr rr hv) H := hP
    replace hD : va_D (inW (wM ad cI n st hr ca sp k ts th pr hc lu ll up lo fr rr hv)) (wM ad cI n st hr ca sp k ts th pr hc ((lu * ((rr (t)) - (fr (t))))) ll up lo fr rr hv) := hD
    refine lv_aload_n (pc := 31) hx hb dX4_goOn_31 rfl (lv_at hl 2 rfl) ?_
    refine lv_dup (pc := 32) hx hb dX4_goOn_32 rfl ?_
    refine va_get (D := D) (cl := vwCl) (ci := 4) (v := .long (zj (ll))) (C := RX4) (T := TX4) (N := 17) (pc := 33) hx hb hT inT4 hown hK.1 hP 0 rfl rfl 11 (by decide) (hT _ tw_348) (fun _ h9 => h9) rfl dX4_goOn_33 ?_
    refine lv_iload_n (pc := 36) hx hb dX4_goOn_36 rfl (lv_at hl 0 rfl) ?_
    refine z_i2l (pc := 37) hx hb (by omega) dX4_goOn_37 ?_
    refine z_lmul (pc := 38) hx hb dX4_goOn_38 ?_
    refine va_put (D := D) (cl := vwCl) (ci := 4) (v := .long (zj ((ll * (rr (t)))))) (ty := .long) (C := RX4) (T := TX4) (N := 17) (pc := 39) hx hb hT inT4 tyX4 tyX4_ok nmX4 hown hK.1 hP hD hS 0 rfl rfl 11 (by decide) (hT _ tw_348) (fun _ h9 => h9) rfl (by decide +kernel) rfl rfl (Nat.le_of_ble_eq_true rfl) dX4_goOn_39 (fun H locs hP hD hS => ?_)
    replace hP : va_P D vwCl (wM ad cI n st hr ca sp k ts th pr hc ((lu * ((rr (t)) - (fr (t))))) ((ll * (rr (t)))) up lo fr rr hv) H := hP
    replace hD : va_D (inW (wM ad cI n st hr ca sp k ts th pr hc lu ll up lo fr rr hv)) (wM ad cI n st hr ca sp k ts th pr hc ((lu * ((rr (t)) - (fr (t))))) ((ll * (rr (t)))) up lo fr rr hv) := hD
    refine lv_aload_n (pc := 42) hx hb dX4_goOn_42 rfl (lv_at hl 2 rfl) ?_
    refine va_get (D := D) (cl := vwCl) (ci := 4) (v := .long (zj ((lu * ((rr (t)) - (fr (t))))))) (C := RX4) (T := TX4) (N := 17) (pc := 43) hx hb hT inT4 hown hK.1 hP 0 rfl rfl 10 (by decide) (hT _ tw_347) (fun _ h9 => h9) rfl dX4_goOn_43 ?_
    refine lv_aload_n (pc := 46) hx hb dX4_goOn_46 rfl (lv_at hl 2 rfl) ?_
    refine va_get (D := D) (cl := vwCl) (ci := 4) (v := .long (zj ((ll * (rr (t)))))) (C := RX4) (T := TX4) (N := 17) (pc := 47) hx hb hT inT4 hown hK.1 hP 0 rfl rfl 11 (by decide) (hT _ tw_348) (fun _ h9 => h9) rfl dX4_goOn_47 ?_
    refine rd_S (pc := 50) hx hb hml hown hT hK (c_X4_common D cI cJ l ((lu * ((rr (t)) - (fr (t))))) ((ll * (rr (t)))) (rdU (lev F R t0) (lev F R B) * (R t - F t)) (rdL (lev F R t0) (lev F R B) * R t) eA eB hAB) ca_X4_common tw_471 va_Pnil ⟨Nat.le_of_ble_eq_true rfl, Nat.le_of_ble_eq_true rfl⟩ rfl hl.1 (As := [.long (zj ((lu * ((rr (t)) - (fr (t)))))), .long (zj ((ll * (rr (t)))))]) (rest := []) rfl (Nat.le_of_ble_eq_true rfl) ⟨Nat.le_of_ble_eq_true rfl, Nat.le_of_ble_eq_true rfl⟩ dX4_goOn_50 ?_
    refine lv_lstore (lv' := [(4, .long (zj (((Nat.gcd (rdU (lev F R t0) (lev F R B) * (R t - F t)) (rdL (lev F R t0) (lev F R B) * R t) : Nat) : Int)))), (3, .int (zi ((rr (t))))), (2, .int (zi ((fr (t))))), (0, .ref (ad 0)), (1, .int (zi ((t : Int))))]) (pc := 53) hx hb dX4_goOn_53 hl (by decide) rfl (fun ls hl => ?_)
    refine lv_aload_n (pc := 55) hx hb dX4_goOn_55 rfl (lv_at hl 3 rfl) ?_
    refine lv_dup (pc := 56) hx hb dX4_goOn_56 rfl ?_
    refine va_get (D := D) (cl := vwCl) (ci := 4) (v := .long (zj ((lu * ((rr (t)) - (fr (t))))))) (C := RX4) (T := TX4) (N := 17) (pc := 57) hx hb hT inT4 hown hK.1 hP 0 rfl rfl 10 (by decide) (hT _ tw_347) (fun _ h9 => h9) rfl dX4_goOn_57 ?_
    refine lv_lload (pc := 60) hx hb dX4_goOn_60 (lv_at hl 0 rfl) ?_
    refine z_ldiv (pc := 62) hx hb (by rw [eA]; omega) dX4_goOn_62 ?_
    refine va_put (D := D) (cl := vwCl) (ci := 4) (v := .long (zj (((lu * ((rr (t)) - (fr (t)))) / ((Nat.gcd (rdU (lev F R t0) (lev F R B) * (R t - F t)) (rdL (lev F R t0) (lev F R B) * R t) : Nat) : Int))))) (ty := .long) (C := RX4) (T := TX4) (N := 17) (pc := 63) hx hb hT inT4 tyX4 tyX4_ok nmX4 hown hK.1 hP hD hS 0 rfl rfl 10 (by decide) (hT _ tw_347) (fun _ h9 => h9) rfl (by decide +kernel) rfl rfl (Nat.le_of_ble_eq_true rfl) dX4_goOn_63 (fun H locs hP hD hS => ?_)
    replace hP : va_P D vwCl (wM ad cI n st hr ca sp k ts th pr hc (((lu * ((rr (t)) - (fr (t)))) / ((Nat.gcd (rdU (lev F R t0) (lev F R B) * (R t - F t)) (rdL (lev F R t0) (lev F R B) * R t) : Nat) : Int))) ((ll * (rr (t)))) up lo fr rr hv) H := hP
    replace hD : va_D (inW (wM ad cI n st hr ca sp k ts th pr hc lu ll up lo fr rr hv)) (wM ad cI n st hr ca sp k ts th pr hc (((lu * ((rr (t)) - (fr (t)))) / ((Nat.gcd (rdU (lev F R t0) (lev F R B) * (R t - F t)) (rdL (lev F R t0) (lev F R B) * R t) : Nat) : Int))) ((ll * (rr (t)))) up lo fr rr hv) := hD
    refine lv_aload_n (pc := 66) hx hb dX4_goOn_66 rfl (lv_at hl 3 rfl) ?_
    refine lv_dup (pc := 67) hx hb dX4_goOn_67 rfl ?_
    refine va_get (D := D) (cl := vwCl) (ci := 4) (v := .long (zj ((ll * (rr (t)))))) (C := RX4) (T := TX4) (N := 17) (pc := 68) hx hb hT inT4 hown hK.1 hP 0 rfl rfl 11 (by decide) (hT _ tw_348) (fun _ h9 => h9) rfl dX4_goOn_68 ?_
    refine lv_lload (pc := 71) hx hb dX4_goOn_71 (lv_at hl 0 rfl) ?_
    refine z_ldiv (pc := 73) hx hb (by rw [eB]; omega) dX4_goOn_73 ?_
    refine va_put (D := D) (cl := vwCl) (ci := 4) (v := .long (zj (((ll * (rr (t))) / ((Nat.gcd (rdU (lev F R t0) (lev F R B) * (R t - F t)) (rdL (lev F R t0) (lev F R B) * R t) : Nat) : Int))))) (ty := .long) (C := RX4) (T := TX4) (N := 17) (pc := 74) hx hb hT inT4 tyX4 tyX4_ok nmX4 hown hK.1 hP hD hS 0 rfl rfl 11 (by decide) (hT _ tw_348) (fun _ h9 => h9) rfl (by decide +kernel) rfl rfl (Nat.le_of_ble_eq_true rfl) dX4_goOn_74 (fun H locs hP hD hS => ?_)
    replace hP : va_P D vwCl (wM ad cI n st hr ca sp k ts th pr hc (((lu * ((rr (t)) - (fr (t)))) / ((Nat.gcd (rdU (lev F R t0) (lev F R B) * (R t - F t)) (rdL (lev F R t0) (lev F R B) * R t) : Nat) : Int))) (((ll * (rr (t))) / ((Nat.gcd (rdU (lev F R t0) (lev F R B) * (R t - F t)) (rdL (lev F R t0) (lev F R B) * R t) : Nat) : Int))) up lo fr rr hv) H := hP
    replace hD : va_D (inW (wM ad cI n st hr ca sp k ts th pr hc lu ll up lo fr rr hv)) (wM ad cI n st hr ca sp k ts th pr hc (((lu * ((rr (t)) - (fr (t)))) / ((Nat.gcd (rdU (lev F R t0) (lev F R B) * (R t - F t)) (rdL (lev F R t0) (lev F R B) * R t) : Nat) : Int))) (((ll * (rr (t))) / ((Nat.gcd (rdU (lev F R t0) (lev F R B) * (R t - F t)) (rdL (lev F R t0) (lev F R B) * R t) : Nat) : Int))) up lo fr rr hv) := hD
    exact wv_ret hx hb hrt hlk dX4_goOn_77 hP hS (by rw [eA, eB, nat_div, nat_div]; exact cg2 (fun x y : Nat => (wM ad cI n st hr ca sp k ts th pr hc ((x : Int)) ((y : Int)) up lo fr rr hv)) hgo.1 hgo.2)

set_option maxHeartbeats 4000000 in
set_option maxRecDepth 100000 in
theorem c_X4_findLeft (D : va_G) (cI cJ : ClassId) (l : Launch) (ad : Nat → Nat) (n : Int) (st hr ca sp : Nat → Int) (k : Int) (ts th : Nat → Int) (pr hc lu ll up lo : Int) (fr rr hv : Nat → Int) (F R : Nat → Nat) (hs : STd F R) (hRW : HRW F R fr rr) (z : Int) (t : Nat) (hz : z = (t : Int)) (ht : t ≤ 500) : WV D cI cJ l yX4_findLeft cX4_findLeft 3 2 54 [.ref (ad 0), .int (zi (z))] (wM ad cI n st hr ca sp k ts th pr hc lu ll up lo fr rr hv) (fun ws' => ws' = (wM ad cI n st hr ca sp k ts th pr hc ((rdU (lev F R t) (lev F R 0) : Int)) ((rdL (lev F R t) (lev F R 0) : Int)) up lo fr rr hv)) := by
  subst hz
  refine WV.of (by decide) (Nat.le_of_ble_eq_true rfl) ?_
  intro p e s m args below meth c hx hb hrt hml hown hT hlk hK hP hD hS ls hl
  replace hl : lv_has ls 3 [(0, .ref (ad 0)), (1, .int (zi ((t : Int))))] := hl
  have h0 := (lev_0 hs).1
  have loop : ∀ u : Nat, u ≤ (t + 1) → ∀ (z2 zu zl : Int), ∀ (H : Heap) (locs : List Loc), (z2 = (u : Int)) → (zu = (rdU (lev F R (u - 1)) (lev F R 0) : Int)) → (zl = (rdL (lev F R (u - 1)) (lev F R 0) : Int)) → va_P D vwCl (wM ad cI n st hr ca sp k ts th pr hc zu zl up lo fr rr hv) H → va_D (inW (wM ad cI n st hr ca sp k ts th pr hc lu ll up lo fr rr hv)) (wM ad cI n st hr ca sp k ts th pr hc zu zl up lo fr rr hv) → va_S (inW (wM ad cI n st hr ca sp k ts th pr hc lu ll up lo fr rr hv)) s.heap H locs → ∀ ls : Array Slot, lv_has ls 3 [(0, .ref (ad 0)), (1, .int (zi ((t : Int)))), (2, .int (zi (z2)))] → W p l e (RM 2 54) s m args below meth c H locs 0 0 (MQ below (QV D (wM ad cI n st hr ca sp k ts th pr hc lu ll up lo fr rr hv) (fun ws' => ws' = (wM ad cI n st hr ca sp k ts th pr hc ((rdU (lev F R t) (lev F R 0) : Int)) ((rdL (lev F R t) (lev F R 0) : Int)) up lo fr rr hv))) args s 0 0 (inW (wM ad cI n st hr ca sp k ts th pr hc lu ll up lo fr rr hv))) (F0 m 12 ls []) := by
    refine lp_up (fun u => ∀ (z2 zu zl : Int), ∀ (H : Heap) (locs : List Loc), (z2 = (u : Int)) → (zu = (rdU (lev F R (u - 1)) (lev F R 0) : Int)) → (zl = (rdL (lev F R (u - 1)) (lev F R 0) : Int)) → va_P D vwCl (wM ad cI n st hr ca sp k ts th pr hc zu zl up lo fr rr hv) H → va_D (inW (wM ad cI n st hr ca sp k ts th pr hc lu ll up lo fr rr hv)) (wM ad cI n st hr ca sp k ts th pr hc zu zl up lo fr rr hv) → va_S (inW (wM ad cI n st hr ca sp k ts th pr hc lu ll up lo fr rr hv)) s.heap H locs → ∀ ls : Array Slot, lv_has ls 3 [(0, .ref (ad 0)), (1, .int (zi ((t : Int)))), (2, .int (zi (z2)))] → W p l e (RM 2 54) s m args below meth c H locs 0 0 (MQ below (QV D (wM ad cI n st hr ca sp k ts th pr hc lu ll up lo fr rr hv) (fun ws' => ws' = (wM ad cI n st hr ca sp k ts th pr hc ((rdU (lev F R t) (lev F R 0) : Int)) ((rdL (lev F R t) (lev F R 0) : Int)) up lo fr rr hv))) args s 0 0 (inW (wM ad cI n st hr ca sp k ts th pr hc lu ll up lo fr rr hv))) (F0 m 12 ls [])) ((t + 1)) ?_ ?_
    · intro z2 zu zl H locs e2 eu el hP hD hS ls hl
      refine lv_iload_n (pc := 12) hx hb dX4_findLeft_12 rfl (lv_at hl 2 rfl) ?_
      refine lv_iload_n (pc := 13) hx hb dX4_findLeft_13 rfl (lv_at hl 1 rfl) ?_
      refine z_icmp_gt (tgt := 28) (pc := 14) hx hb dX4_findLeft_14 (by decide) (by omega) (by omega) (fun c_1 => ?_) (fun c_1 => absurd c_1 (by omega))
      exact wv_ret hx hb hrt hlk dX4_findLeft_28 hP hS (by rw [eu, el, Nat.add_sub_cancel])
    · intro u hu ih z2 zu zl H locs e2 eu el hP hD hS ls hl
      refine lv_iload_n (pc := 12) hx hb dX4_findLeft_12 rfl (lv_at hl 2 rfl) ?_
      refine lv_iload_n (pc := 13) hx hb dX4_findLeft_13 rfl (lv_at hl 1 rfl) ?_
      refine z_icmp_gt (tgt := 28) (pc := 14) hx hb dX4_findLeft_14 (by decide) (by omega) (by omega) (fun c_2 => absurd c_2 (by omega)) (fun c_2 => ?_)
      refine lv_aload_n (pc := 17) hx hb dX4_findLeft_17 rfl (lv_at hl 0 rfl) ?_
      refine lv_iload_n (pc := 18) hx hb dX4_findLeft_18 rfl (lv_at hl 2 rfl) ?_
      refine wv_V (pc := 19) hx hb hml hown hT hK (c_X4_goOn D cI cJ l ad n st hr ca sp k ts th pr hc zu zl up lo fr rr hv F R hs hRW (z2) 0 (u - 1) u (by omega) h0 (by omega) (by omega) (by rcases Nat.eq_zero_or_pos u with q | q; exact Or.inr ⟨by omega, by rw [q]; exact hs.1⟩; exact Or.inl (by omega)) eu el) ca_X4_goOn tw_467 hP hD hS (fun q h => inW_same (by rfl) h) 0 4 rfl rfl rfl ⟨Nat.le_of_ble_eq_true rfl, Nat.le_of_ble_eq_true rfl⟩ rfl hl.1 (As := [.int (zi (z2))]) (rest := []) rfl (Nat.le_of_ble_eq_true rfl) ⟨Nat.le_of_ble_eq_true rfl, Nat.le_of_ble_eq_true rfl⟩ dX4_findLeft_19 (fun ws_ H locs hΦ hP hz_ hk_ hS => ?_)
      subst hΦ
      replace hP : va_P D vwCl (wM ad cI n st hr ca sp k ts th pr hc ((rdU (lev F R u) (lev F R 0) : Int)) ((rdL (lev F R u) (lev F R 0) : Int)) up lo fr rr hv) H := hP
      replace hD : va_D (inW (wM ad cI n st hr ca sp k ts th pr hc lu ll up lo fr rr hv)) (wM ad cI n st hr ca sp k ts th pr hc ((rdU (lev F R u) (lev F R 0) : Int)) ((rdL (lev F R u) (lev F R 0) : Int)) up lo fr rr hv) := hD.same rfl
      refine lv_iinc (v := zi (z2 + 1)) (lv' := [(2, .int (zi ((z2 + 1)))), (0, .ref (ad 0)), (1, .int (zi ((t : Int))))]) (pc := 22) hx hb dX4_findLeft_22 hl (k := 2) rfl (zi_add _ _) (by decide) rfl (fun ls hl => ?_)
      refine lv_goto (tgt := 12) (pc := 25) hx hb dX4_findLeft_25 (by decide) ?_
      exact ih  _ _ _ _ _ (by omega) (by rw [Nat.add_sub_cancel]) (by rw [Nat.add_sub_cancel]) hP hD hS ls (lv_sub hl [1, 2, 0] rfl)
  refine lv_aload_n (pc := 0) hx hb dX4_findLeft_0 rfl (lv_at hl 0 rfl) ?_
  refine z_lconst1 (pc := 1) hx hb dX4_findLeft_1 ?_
  refine va_put (D := D) (cl := vwCl) (ci := 4) (v := .long (zj (1))) (ty := .long) (C := RX4) (T := TX4) (N := 17) (pc := 2) hx hb hT inT4 tyX4 tyX4_ok nmX4 hown hK.1 hP hD hS 0 rfl rfl 10 (by decide) (hT _ tw_347) (fun _ h9 => h9) rfl (by decide +kernel) rfl rfl (Nat.le_of_ble_eq_true rfl) dX4_findLeft_2 (fun H locs hP hD hS => ?_)
  replace hP : va_P D vwCl (wM ad cI n st hr ca sp k ts th pr hc 1 ll up lo fr rr hv) H := hP
  replace hD : va_D (inW (wM ad cI n st hr ca sp k ts th pr hc lu ll up lo fr rr hv)) (wM ad cI n st hr ca sp k ts th pr hc 1 ll up lo fr rr hv) := hD
  refine lv_aload_n (pc := 5) hx hb dX4_findLeft_5 rfl (lv_at hl 0 rfl) ?_
  refine z_lconst1 (pc := 6) hx hb dX4_findLeft_6 ?_
  refine va_put (D := D) (cl := vwCl) (ci := 4) (v := .long (zj (1))) (ty := .long) (C := RX4) (T := TX4) (N := 17) (pc := 7) hx hb hT inT4 tyX4 tyX4_ok nmX4 hown hK.1 hP hD hS 0 rfl rfl 11 (by decide) (hT _ tw_348) (fun _ h9 => h9) rfl (by decide +kernel) rfl rfl (Nat.le_of_ble_eq_true rfl) dX4_findLeft_7 (fun H locs hP hD hS => ?_)
  replace hP : va_P D vwCl (wM ad cI n st hr ca sp k ts th pr hc 1 1 up lo fr rr hv) H := hP
  replace hD : va_D (inW (wM ad cI n st hr ca sp k ts th pr hc lu ll up lo fr rr hv)) (wM ad cI n st hr ca sp k ts th pr hc 1 1 up lo fr rr hv) := hD
  refine z_iconst (pc := 10) hx hb dX4_findLeft_10 ?_
  refine lv_istore_n (lv' := [(2, .int (zi (0))), (0, .ref (ad 0)), (1, .int (zi ((t : Int))))]) (pc := 11) hx hb dX4_findLeft_11 rfl hl (by decide) rfl (fun ls hl => ?_)
  exact loop 0 (by omega) _ _ _ _ _ (by rfl) (by rw [show 0 - 1 = 0 from rfl, (rd_self h0).1]; rfl) (by rw [show 0 - 1 = 0 from rfl, (rd_self h0).2]; rfl) hP hD hS ls (lv_sub hl [1, 2, 0] rfl)

set_option maxHeartbeats 4000000 in
set_option maxRecDepth 100000 in
theorem c_X4_add (D : va_G) (cI cJ : ClassId) (l : Launch) (ad : Nat → Nat) (n : Int) (st hr ca sp : Nat → Int) (k : Int) (ts th : Nat → Int) (pr hc lu ll up lo : Int) (fr rr hv : Nat → Int) (A L LB : Nat) (hB0 : 0 < LB) (h1 : rdL A LB ≤ 599040 ∧ rdL L LB ≤ 599040) (h2 : A ≤ 500 * LB ∧ L ≤ 1 * LB) (eup : up = (rdU (A) LB : Int)) (elo : lo = (rdL (A) LB : Int)) (elu : lu = (rdU (L) LB : Int)) (ell : ll = (rdL (L) LB : Int)) : WV D cI cJ l yX4_add cX4_add 3 1 29 [.ref (ad 0)] (wM ad cI n st hr ca sp k ts th pr hc lu ll up lo fr rr hv) (fun ws' => ws' = (wM ad cI n st hr ca sp k ts th pr hc lu ll ((rdU (A + L) LB : Int)) ((rdL (A + L) LB : Int)) fr rr hv)) := by
  refine WV.of (by decide) (Nat.le_of_ble_eq_true rfl) ?_
  intro p e s m args below meth c hx hb hrt hml hown hT hlk hK hP hD hS ls hl
  replace hl : lv_has ls 3 [(0, .ref (ad 0))] := hl
  have eA : up * ll + lu * lo = (((rdU A LB * rdL L LB + rdU L LB * rdL A LB) : Nat) : Int) := by rw [eup, elo, elu, ell]; rfl
  have eB : lo * ll = (((rdL A LB * rdL L LB) : Nat) : Int) := by rw [elo, ell]; rfl
  have p1 := (rd_back (a := A) hB0).2.2.2
  have p2 := (rd_back (a := L) hB0).2.2.2
  have q1 := rd_le (k := 500) hB0 h2.1
  have q2 := rd_le (k := 1) hB0 h2.2
  have m1 : rdU A LB * rdL L LB ≤ (500 * 599040) * 599040 := Nat.mul_le_mul (by omega) (by omega)
  have m2 : rdU L LB * rdL A LB ≤ 599040 * 599040 := Nat.mul_le_mul (by omega) (by omega)
  have m3 : (rdL A LB * rdL L LB) ≤ 599040 * 599040 := Nat.mul_le_mul (by omega) (by omega)
  have m4 : 0 < (rdL A LB * rdL L LB) := Nat.mul_pos p1 p2
  have hAB : (rdU A LB * rdL L LB + rdU L LB * rdL A LB) ≤ 281474976710656 ∧ (rdL A LB * rdL L LB) ≤ 281474976710656 := by omega
  have hg0 : 0 < Nat.gcd (rdU A LB * rdL L LB + rdU L LB * rdL A LB) (rdL A LB * rdL L LB) := Nat.gcd_pos_of_pos_right _ m4
  have hg1 := Nat.gcd_le_right (rdU A LB * rdL L LB + rdU L LB * rdL A LB) m4
  have hae := add_eq (A := A) (L := L) hB0
  refine lv_aload_n (pc := 0) hx hb dX4_add_0 rfl (lv_at hl 0 rfl) ?_
  refine lv_aload_n (pc := 1) hx hb dX4_add_1 rfl (lv_at hl 0 rfl) ?_
  refine va_get (D := D) (cl := vwCl) (ci := 4) (v := .long (zj (up))) (C := RX4) (T := TX4) (N := 17) (pc := 2) hx hb hT inT4 hown hK.1 hP 0 rfl rfl 12 (by decide) (hT _ tw_349) (fun _ h9 => h9) rfl dX4_add_2 ?_
  refine lv_aload_n (pc := 5) hx hb dX4_add_5 rfl (lv_at hl 0 rfl) ?_
  refine va_get (D := D) (cl := vwCl) (ci := 4) (v := .long (zj (ll))) (C := RX4) (T := TX4) (N := 17) (pc := 6) hx hb hT inT4 hown hK.1 hP 0 rfl rfl 11 (by decide) (hT _ tw_348) (fun _ h9 => h9) rfl dX4_add_6 ?_
  refine z_lmul (pc := 9) hx hb dX4_add_9 ?_
  refine lv_aload_n (pc := 10) hx hb dX4_add_10 rfl (lv_at hl 0 rfl) ?_
  refine va_get (D := D) (cl := vwCl) (ci := 4) (v := .long (zj (lu))) (C := RX4) (T := TX4) (N := 17) (pc := 11) hx hb hT inT4 hown hK.1 hP 0 rfl rfl 10 (by decide) (hT _ tw_347) (fun _ h9 => h9) rfl dX4_add_11 ?_
  refine lv_aload_n (pc := 14) hx hb dX4_add_14 rfl (lv_at hl 0 rfl) ?_
  refine va_get (D := D) (cl := vwCl) (ci := 4) (v := .long (zj (lo))) (C := RX4) (T := TX4) (N := 17) (pc := 15) hx hb hT inT4 hown hK.1 hP 0 rfl rfl 13 (by decide) (hT _ tw_350) (fun _ h9 => h9) rfl dX4_add_15 ?_
  refine z_lmul (pc := 18) hx hb dX4_add_18 ?_
  refine z_ladd (pc := 19) hx hb dX4_add_19 ?_
  refine va_put (D := D) (cl := vwCl) (ci := 4) (v := .long (zj (((up * ll) + (lu * lo))))) (ty := .long) (C := RX4) (T := TX4) (N := 17) (pc := 20) hx hb hT inT4 tyX4 tyX4_ok nmX4 hown hK.1 hP hD hS 0 rfl rfl 12 (by decide) (hT _ tw_349) (fun _ h9 => h9) rfl (by decide +kernel) rfl rfl (Nat.le_of_ble_eq_true rfl) dX4_add_20 (fun H locs hP hD hS => ?_)
  replace hP : va_P D vwCl (wM ad cI n st hr ca sp k ts th pr hc lu ll (((up * ll) + (lu * lo))) lo fr rr hv) H := hP
  replace hD : va_D (inW (wM ad cI n st hr ca sp k ts th pr hc lu ll up lo fr rr hv)) (wM ad cI n st hr ca sp k ts th pr hc lu ll (((up * ll) + (lu * lo))) lo fr rr hv) := hD
  refine lv_aload_n (pc := 23) hx hb dX4_add_23 rfl (lv_at hl 0 rfl) ?_
  refine lv_dup (pc := 24) hx hb dX4_add_24 rfl ?_
  refine va_get (D := D) (cl := vwCl) (ci := 4) (v := .long (zj (lo))) (C := RX4) (T := TX4) (N := 17) (pc := 25) hx hb hT inT4 hown hK.1 hP 0 rfl rfl 13 (by decide) (hT _ tw_350) (fun _ h9 => h9) rfl dX4_add_25 ?_
  refine lv_aload_n (pc := 28) hx hb dX4_add_28 rfl (lv_at hl 0 rfl) ?_
  refine va_get (D := D) (cl := vwCl) (ci := 4) (v := .long (zj (ll))) (C := RX4) (T := TX4) (N := 17) (pc := 29) hx hb hT inT4 hown hK.1 hP 0 rfl rfl 11 (by decide) (hT _ tw_348) (fun _ h9 => h9) rfl dX4_add_29 ?_
  refine z_lmul (pc := 32) hx hb dX4_add_32 ?_
  refine va_put (D := D) (cl := vwCl) (ci := 4) (v := .long (zj ((lo * ll)))) (ty := .long) (C := RX4) (T := TX4) (N := 17) (pc := 33) hx hb hT inT4 tyX4 tyX4_ok nmX4 hown hK.1 hP hD hS 0 rfl rfl 13 (by decide) (hT _ tw_350) (fun _ h9 => h9) rfl (by decide +kernel) rfl rfl (Nat.le_of_ble_eq_true rfl) dX4_add_33 (fun H locs hP hD hS => ?_)
  replace hP : va_P D vwCl (wM ad cI n st hr ca sp k ts th pr hc lu ll (((up * ll) + (lu * lo))) ((lo * ll)) fr rr hv) H := hP
  replace hD : va_D (inW (wM ad cI n st hr ca sp k ts th pr hc lu ll up lo fr rr hv)) (wM ad cI n st hr ca sp k ts th pr hc lu ll (((up * ll) + (lu * lo))) ((lo * ll)) fr rr hv) := hD
  refine lv_aload_n (pc := 36) hx hb dX4_add_36 rfl (lv_at hl 0 rfl) ?_
  refine va_get (D := D) (cl := vwCl) (ci := 4) (v := .long (zj (((up * ll) + (lu * lo))))) (C := RX4) (T := TX4) (N := 17) (pc := 37) hx hb hT inT4 hown hK.1 hP 0 rfl rfl 12 (by decide) (hT _ tw_349) (fun _ h9 => h9) rfl dX4_add_37 ?_
  refine lv_aload_n (pc := 40) hx hb dX4_add_40 rfl (lv_at hl 0 rfl) ?_
  refine va_get (D := D) (cl := vwCl) (ci := 4) (v := .long (zj ((lo * ll)))) (C := RX4) (T := TX4) (N := 17) (pc := 41) hx hb hT inT4 hown hK.1 hP 0 rfl rfl 13 (by decide) (hT _ tw_350) (fun _ h9 => h9) rfl dX4_add_41 ?_
  refine rd_S (pc := 44) hx hb hml hown hT hK (c_X4_common D cI cJ l (((up * ll) + (lu * lo))) ((lo * ll)) (rdU A LB * rdL L LB + rdU L LB * rdL A LB) (rdL A LB * rdL L LB) eA eB hAB) ca_X4_common tw_471 va_Pnil ⟨Nat.le_of_ble_eq_true rfl, Nat.le_of_ble_eq_true rfl⟩ rfl hl.1 (As := [.long (zj (((up * ll) + (lu * lo)))), .long (zj ((lo * ll)))]) (rest := []) rfl (Nat.le_of_ble_eq_true rfl) ⟨Nat.le_of_ble_eq_true rfl, Nat.le_of_ble_eq_true rfl⟩ dX4_add_44 ?_
  refine lv_lstore_n (lv' := [(1, .long (zj (((Nat.gcd (rdU A LB * rdL L LB + rdU L LB * rdL A LB) (rdL A LB * rdL L LB) : Nat) : Int)))), (0, .ref (ad 0))]) (pc := 47) hx hb dX4_add_47 rfl hl (by decide) rfl (fun ls hl => ?_)
  refine lv_aload_n (pc := 48) hx hb dX4_add_48 rfl (lv_at hl 1 rfl) ?_
  refine lv_dup (pc := 49) hx hb dX4_add_49 rfl ?_
  refine va_get (D := D) (cl := vwCl) (ci := 4) (v := .long (zj (((up * ll) + (lu * lo))))) (C := RX4) (T := TX4) (N := 17) (pc := 50) hx hb hT inT4 hown hK.1 hP 0 rfl rfl 12 (by decide) (hT _ tw_349) (fun _ h9 => h9) rfl dX4_add_50 ?_
  refine lv_lload_n (pc := 53) hx hb dX4_add_53 rfl (lv_at hl 0 rfl) ?_
  refine z_ldiv (pc := 54) hx hb (by rw [eA]; omega) dX4_add_54 ?_
  refine va_put (D := D) (cl := vwCl) (ci := 4) (v := .long (zj ((((up * ll) + (lu * lo)) / ((Nat.gcd (rdU A LB * rdL L LB + rdU L LB * rdL A LB) (rdL A LB * rdL L LB) : Nat) : Int))))) (ty := .long) (C := RX4) (T := TX4) (N := 17) (pc := 55) hx hb hT inT4 tyX4 tyX4_ok nmX4 hown hK.1 hP hD hS 0 rfl rfl 12 (by decide) (hT _ tw_349) (fun _ h9 => h9) rfl (by decide +kernel) rfl rfl (Nat.le_of_ble_eq_true rfl) dX4_add_55 (fun H locs hP hD hS => ?_)
  replace hP : va_P D vwCl (wM ad cI n st hr ca sp k ts th pr hc lu ll ((((up * ll) + (lu * lo)) / ((Nat.gcd (rdU A LB * rdL L LB + rdU L LB * rdL A LB) (rdL A LB * rdL L LB) : Nat) : Int))) ((lo * ll)) fr rr hv) H := hP
  replace hD : va_D (inW (wM ad cI n st hr ca sp k ts th pr hc lu ll up lo fr rr hv)) (wM ad cI n st hr ca sp k ts th pr hc lu ll ((((up * ll) + (lu * lo)) / ((Nat.gcd (rdU A LB * rdL L LB + rdU L LB * rdL A LB) (rdL A LB * rdL L LB) : Nat) : Int))) ((lo * ll)) fr rr hv) := hD
  refine lv_aload_n (pc := 58) hx hb dX4_add_58 rfl (lv_at hl 1 rfl) ?_
  refine lv_dup (pc := 59) hx hb dX4_add_59 rfl ?_
  refine va_get (D := D) (cl := vwCl) (ci := 4) (v := .long (zj ((lo * ll)))) (C := RX4) (T := TX4) (N := 17) (pc := 60) hx hb hT inT4 hown hK.1 hP 0 rfl rfl 13 (by decide) (hT _ tw_350) (fun _ h9 => h9) rfl dX4_add_60 ?_
  refine lv_lload_n (pc := 63) hx hb dX4_add_63 rfl (lv_at hl 0 rfl) ?_
  refine z_ldiv (pc := 64) hx hb (by rw [eB]; omega) dX4_add_64 ?_
  refine va_put (D := D) (cl := vwCl) (ci := 4) (v := .long (zj (((lo * ll) / ((Nat.gcd (rdU A LB * rdL L LB + rdU L LB * rdL A LB) (rdL A LB * rdL L LB) : Nat) : Int))))) (ty := .long) (C := RX4) (T := TX4) (N := 17) (pc := 65) hx hb hT inT4 tyX4 tyX4_ok nmX4 hown hK.1 hP hD hS 0 rfl rfl 13 (by decide) (hT _ tw_350) (fun _ h9 => h9) rfl (by decide +kernel) rfl rfl (Nat.le_of_ble_eq_true rfl) dX4_add_65 (fun H locs hP hD hS => ?_)
  replace hP : va_P D vwCl (wM ad cI n st hr ca sp k ts th pr hc lu ll ((((up * ll) + (lu * lo)) / ((Nat.gcd (rdU A LB * rdL L LB + rdU L LB * rdL A LB) (rdL A LB * rdL L LB) : Nat) : Int))) (((lo * ll) / ((Nat.gcd (rdU A LB * rdL L LB + rdU L LB * rdL A LB) (rdL A LB * rdL L LB) : Nat) : Int))) fr rr hv) H := hP
  replace hD : va_D (inW (wM ad cI n st hr ca sp k ts th pr hc lu ll up lo fr rr hv)) (wM ad cI n st hr ca sp k ts th pr hc lu ll ((((up * ll) + (lu * lo)) / ((Nat.gcd (rdU A LB * rdL L LB + rdU L LB * rdL A LB) (rdL A LB * rdL L LB) : Nat) : Int))) (((lo * ll) / ((Nat.gcd (rdU A LB * rdL L LB + rdU L LB * rdL A LB) (rdL A LB * rdL L LB) : Nat) : Int))) fr rr hv) := hD
  exact wv_ret hx hb hrt hlk dX4_add_68 hP hS (by rw [eA, eB, nat_div, nat_div]; exact cg2 (fun x y : Nat => (wM ad cI n st hr ca sp k ts th pr hc lu ll ((x : Int)) ((y : Int)) fr rr hv)) hae.1 hae.2)
