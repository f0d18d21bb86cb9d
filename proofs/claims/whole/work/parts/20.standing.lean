set_option maxHeartbeats 4000000 in
set_option maxRecDepth 100000 in
theorem c_X0_raiseAllBefore (D : va_G) (cI cJ : ClassId) (l : Launch) (ad : Nat → Nat) (n : Int) (st hr ca : Nat → Int) (pcs : Int) (fr lv : Nat → Int) (k : Int) (ts th sp hv : Nat → Int) (pr hc : Int) (z f : Int) (K : Nat) (hz : z = (K : Int)) (hK13 : K ≤ 13) (r_f : -2147483648 ≤ f ∧ f ≤ 2147483647) : WV D cI cJ l yX0_raiseAllBefore cX0_raiseAllBefore 4 0 0 [.ref (ad 2), .int (zi (z)), .int (zi (f))] (wX ad cI cJ n st hr ca pcs fr lv k ts th sp hv pr hc) (fun ws' => ws' = (wX ad cI cJ n st hr ca pcs fr (raiseF lv f K) k ts th sp hv pr hc)) := by
  subst hz
  refine WV.of (by decide) (Nat.le_of_ble_eq_true rfl) ?_
  intro p e s m args below meth c hx hb hrt hml hown hT hlk hK hP hD hS ls hl
  replace hl : lv_has ls 4 [(0, .ref (ad 2)), (1, .int (zi ((K : Int)))), (2, .int (zi (f)))] := hl
  have loop : ∀ u : Nat, u ≤ K → ∀ (z1 : Int), ∀ (lw : Nat → Int) (H : Heap) (locs : List Loc), (z1 = (u : Int)) → (lw = raiseF lv f u) → va_P D vwCl (wX ad cI cJ n st hr ca pcs fr lw k ts th sp hv pr hc) H → va_D (inW (wX ad cI cJ n st hr ca pcs fr lv k ts th sp hv pr hc)) (wX ad cI cJ n st hr ca pcs fr lw k ts th sp hv pr hc) → va_S (inW (wX ad cI cJ n st hr ca pcs fr lv k ts th sp hv pr hc)) s.heap H locs → ∀ ls : Array Slot, lv_has ls 4 [(0, .ref (ad 2)), (1, .int (zi ((K : Int)))), (2, .int (zi (f))), (3, .int (zi (z1)))] → W p l e (RM 0 0) s m args below meth c H locs 0 0 (MQ below (QV D (wX ad cI cJ n st hr ca pcs fr lv k ts th sp hv pr hc) (fun ws' => ws' = (wX ad cI cJ n st hr ca pcs fr (raiseF lv f K) k ts th sp hv pr hc))) args s 0 0 (inW (wX ad cI cJ n st hr ca pcs fr lv k ts th sp hv pr hc))) (F0 m 2 ls []) := by
    refine lp_up (fun u => ∀ (z1 : Int), ∀ (lw : Nat → Int) (H : Heap) (locs : List Loc), (z1 = (u : Int)) → (lw = raiseF lv f u) → va_P D vwCl (wX ad cI cJ n st hr ca pcs fr lw k ts th sp hv pr hc) H → va_D (inW (wX ad cI cJ n st hr ca pcs fr lv k ts th sp hv pr hc)) (wX ad cI cJ n st hr ca pcs fr lw k ts th sp hv pr hc) → va_S (inW (wX ad cI cJ n st hr ca pcs fr lv k ts th sp hv pr hc)) s.heap H locs → ∀ ls : Array Slot, lv_has ls 4 [(0, .ref (ad 2)), (1, .int (zi ((K : Int)))), (2, .int (zi (f))), (3, .int (zi (z1)))] → W p l e (RM 0 0) s m args below meth c H locs 0 0 (MQ below (QV D (wX ad cI cJ n st hr ca pcs fr lv k ts th sp hv pr hc) (fun ws' => ws' = (wX ad cI cJ n st hr ca pcs fr (raiseF lv f K) k ts th sp hv pr hc))) args s 0 0 (inW (wX ad cI cJ n st hr ca pcs fr lv k ts th sp hv pr hc))) (F0 m 2 ls [])) (K) ?_ ?_
    · intro z1 lw H locs e1 e2 hP hD hS ls hl
      refine lv_iload_n (pc := 2) hx hb dX0_raiseAllBefore_2 rfl (lv_at hl 3 rfl) ?_
      refine lv_iload_n (pc := 3) hx hb dX0_raiseAllBefore_3 rfl (lv_at hl 1 rfl) ?_
      refine z_icmp_ge (tgt := 24) (pc := 4) hx hb dX0_raiseAllBefore_4 (by decide) (by omega) (by omega) (fun c_1 => ?_) (fun c_1 => absurd c_1 (by omega))
      exact wv_ret hx hb hrt hlk dX0_raiseAllBefore_24 hP hS (by rw [e2])
    · intro u hu ih z1 lw H locs e1 e2 hP hD hS ls hl
      refine lv_iload_n (pc := 2) hx hb dX0_raiseAllBefore_2 rfl (lv_at hl 3 rfl) ?_
      refine lv_iload_n (pc := 3) hx hb dX0_raiseAllBefore_3 rfl (lv_at hl 1 rfl) ?_
      refine z_icmp_ge (tgt := 24) (pc := 4) hx hb dX0_raiseAllBefore_4 (by decide) (by omega) (by omega) (fun c_2 => absurd c_2 (by omega)) (fun c_2 => ?_)
      refine lv_aload_n (pc := 7) hx hb dX0_raiseAllBefore_7 rfl (lv_at hl 0 rfl) ?_
      refine va_get (D := D) (cl := vwCl) (ci := 0) (v := .ref (ad 10)) (C := RX0) (T := TX0) (N := 3) (pc := 8) hx hb hT inT0 hown hK.1 hP 2 rfl rfl 1 (by decide) (hT _ tw_46) (fun _ h9 => h9) rfl dX0_raiseAllBefore_8 ?_
      refine lv_iload_n (pc := 11) hx hb dX0_raiseAllBefore_11 rfl (lv_at hl 3 rfl) ?_
      refine lv_dup2_11 (pc := 12) hx hb dX0_raiseAllBefore_12 rfl rfl ?_
      refine z_lald (pc := 13) hx hb hK hP 10 (u) (f := lw) rfl (by omega) (by omega) (by omega) dX0_raiseAllBefore_13 ?_
      refine lv_iload_n (pc := 14) hx hb dX0_raiseAllBefore_14 rfl (lv_at hl 2 rfl) ?_
      refine z_i2l (pc := 15) hx hb (by omega) dX0_raiseAllBefore_15 ?_
      refine z_lmul (pc := 16) hx hb dX0_raiseAllBefore_16 ?_
      refine z_last (pc := 17) hx hb hK hP hD hS 10 (u) (f := lw) (x := ((lw (u)) * f)) rfl (by omega) (by omega) (by omega) dX0_raiseAllBefore_17 (fun H locs hP hD hS => ?_)
      replace hP : va_P D vwCl (wX ad cI cJ n st hr ca pcs fr (uZ lw (u) (((lw (u)) * f))) k ts th sp hv pr hc) H := hP
      replace hD : va_D (inW (wX ad cI cJ n st hr ca pcs fr lv k ts th sp hv pr hc)) (wX ad cI cJ n st hr ca pcs fr (uZ lw (u) (((lw (u)) * f))) k ts th sp hv pr hc) := hD
      refine lv_iinc (v := zi (z1 + 1)) (lv' := [(3, .int (zi ((z1 + 1)))), (0, .ref (ad 2)), (1, .int (zi ((K : Int)))), (2, .int (zi (f)))]) (pc := 18) hx hb dX0_raiseAllBefore_18 hl (k := 3) rfl (zi_add _ _) (by decide) rfl (fun ls hl => ?_)
      refine lv_goto (tgt := 2) (pc := 21) hx hb dX0_raiseAllBefore_21 (by decide) ?_
      exact ih  _ _ _ _ (by rw [e1]; rfl) (by rw [e2]; exact raise_s lv f u) hP hD hS ls (lv_sub hl [1, 2, 3, 0] rfl)
  refine z_iconst (pc := 0) hx hb dX0_raiseAllBefore_0 ?_
  refine lv_istore_n (lv' := [(3, .int (zi (0))), (0, .ref (ad 2)), (1, .int (zi ((K : Int)))), (2, .int (zi (f)))]) (pc := 1) hx hb dX0_raiseAllBefore_1 rfl hl (by decide) rfl (fun ls hl => ?_)
  exact loop 0 (by omega) _ _ _ _ (by rfl) (by rw [raise_0]) hP hD hS ls (lv_sub hl [1, 2, 3, 0] rfl)

set_option maxHeartbeats 4000000 in
set_option maxRecDepth 100000 in
theorem c_X0_look (D : va_G) (cI cJ : ClassId) (l : Launch) (ad : Nat → Nat) (n : Int) (st hr ca : Nat → Int) (pcs : Int) (fr lv : Nat → Int) (k : Int) (ts th sp hv : Nat → Int) (pr hc : Int) (hU : VU n st hr ca) (S : Int) (hS0 : 0 ≤ S ∧ S ≤ 15) (b : Int) (r_b : -1 ≤ b ∧ b ≤ 2) : WV D cI cJ l yX0_look cX0_look 7 3 70 [.ref (ad 2), .ref (ad 1), .int (zi (S)), .int (zi (b))] (wX ad cI cJ n st hr ca pcs fr lv k ts th sp hv pr hc) (fun ws' => ∃ (i : Nat) (φ : Nat → Nat) (fr' lv' : Nat → Int), LE (FF n st hr ca S b) (RR n st hr S) i φ fr' lv' ∧ ws' = (wX ad cI cJ n st hr ca ((i : Int) + 1) fr' lv' k ts th sp hv pr hc)) := by
  refine WV.of (by decide) (Nat.le_of_ble_eq_true rfl) ?_
  intro p e s m args below meth c hx hb hrt hml hown hT hlk hK hP hD hS ls hl
  replace hl : lv_has ls 7 [(0, .ref (ad 2)), (1, .ref (ad 1)), (2, .int (zi (S))), (3, .int (zi (b)))] := hl
  obtain ⟨hn, hst, hhr, hh1, hca⟩ := id hU
  have hs := ST_of hU S b
  have loop : ∀ u : Nat, u ≤ 13 → ∀ (z1 z2 zp : Int), ∀ (φ : Nat → Nat) (fw : Nat → Int) (lw : Nat → Int) (H : Heap) (locs : List Loc), (zp = (u : Int) + 1) → (z2 = (u : Int) + 1) → (LK (FF n st hr ca S b) (RR n st hr S) u φ fw lw) → (z1 = cNx st hr ca S b (φ u : Int) n.toNat) → va_P D vwCl (wX ad cI cJ n st hr ca zp fw lw k ts th sp hv pr hc) H → va_D (inW (wX ad cI cJ n st hr ca pcs fr lv k ts th sp hv pr hc)) (wX ad cI cJ n st hr ca zp fw lw k ts th sp hv pr hc) → va_S (inW (wX ad cI cJ n st hr ca pcs fr lv k ts th sp hv pr hc)) s.heap H locs → ∀ ls : Array Slot, lv_has ls 7 [(0, .ref (ad 2)), (1, .ref (ad 1)), (2, .int (zi (S))), (3, .int (zi (b))), (4, .int (zi (z1))), (5, .int (zi (z2)))] → W p l e (RM 3 70) s m args below meth c H locs 0 0 (MQ below (QV D (wX ad cI cJ n st hr ca pcs fr lv k ts th sp hv pr hc) (fun ws' => ∃ (i : Nat) (φ : Nat → Nat) (fr' lv' : Nat → Int), LE (FF n st hr ca S b) (RR n st hr S) i φ fr' lv' ∧ ws' = (wX ad cI cJ n st hr ca ((i : Int) + 1) fr' lv' k ts th sp hv pr hc))) args s 0 0 (inW (wX ad cI cJ n st hr ca pcs fr lv k ts th sp hv pr hc))) (F0 m 31 ls []) := by
    refine lp_up (fun u => ∀ (z1 z2 zp : Int), ∀ (φ : Nat → Nat) (fw : Nat → Int) (lw : Nat → Int) (H : Heap) (locs : List Loc), (zp = (u : Int) + 1) → (z2 = (u : Int) + 1) → (LK (FF n st hr ca S b) (RR n st hr S) u φ fw lw) → (z1 = cNx st hr ca S b (φ u : Int) n.toNat) → va_P D vwCl (wX ad cI cJ n st hr ca zp fw lw k ts th sp hv pr hc) H → va_D (inW (wX ad cI cJ n st hr ca pcs fr lv k ts th sp hv pr hc)) (wX ad cI cJ n st hr ca zp fw lw k ts th sp hv pr hc) → va_S (inW (wX ad cI cJ n st hr ca pcs fr lv k ts th sp hv pr hc)) s.heap H locs → ∀ ls : Array Slot, lv_has ls 7 [(0, .ref (ad 2)), (1, .ref (ad 1)), (2, .int (zi (S))), (3, .int (zi (b))), (4, .int (zi (z1))), (5, .int (zi (z2)))] → W p l e (RM 3 70) s m args below meth c H locs 0 0 (MQ below (QV D (wX ad cI cJ n st hr ca pcs fr lv k ts th sp hv pr hc) (fun ws' => ∃ (i : Nat) (φ : Nat → Nat) (fr' lv' : Nat → Int), LE (FF n st hr ca S b) (RR n st hr S) i φ fr' lv' ∧ ws' = (wX ad cI cJ n st hr ca ((i : Int) + 1) fr' lv' k ts th sp hv pr hc))) args s 0 0 (inW (wX ad cI cJ n st hr ca pcs fr lv k ts th sp hv pr hc))) (F0 m 31 ls [])) (13) ?_ ?_
    · intro z1 z2 zp φ fw lw H locs e0 e9 e1 e2 hP hD hS ls hl
      exfalso; have h1 := e1.1; omega
    · intro u hu ih z1 z2 zp φ fw lw H locs e0 e9 e1 e2 hP hD hS ls hl
      refine lv_iload (pc := 31) hx hb dX0_look_31 (lv_at hl 5 rfl) ?_
      refine lv_aload_n (pc := 33) hx hb dX0_look_33 rfl (lv_at hl 0 rfl) ?_
      refine va_get (D := D) (cl := vwCl) (ci := 0) (v := .ref (ad 9)) (C := RX0) (T := TX0) (N := 3) (pc := 34) hx hb hT inT0 hown hK.1 hP 2 rfl rfl 0 (by decide) (hT _ tw_45) (fun _ h9 => h9) rfl dX0_look_34 ?_
      refine z_alen (pc := 37) hx hb hK hP 9 rfl dX0_look_37 ?_
      refine z_icmp_ge (tgt := 126) (pc := 38) hx hb dX0_look_38 (by decide) (by omega) (by omega) (fun c_1 => ?_) (fun c_1 => ?_)
      · exact wv_ret hx hb hrt hlk dX0_look_126 hP hS (by
          rcases nx_of hU S b (φ u) with h | ⟨x, h1, h2, h3, h4, h5⟩
          · exact ⟨u, φ, fw, lw, LE_of e1 h.2, by rw [e0]⟩
          · have h6 := (LK_step hs e1 h2 h3 h4 h5).1
            exact absurd h6 (by omega))
      · have hcn := cNx_rng (st := st) (ca := ca) (S := S) (b := b) (t := (φ u : Int)) hhr n.toNat
        refine lv_iload (pc := 41) hx hb dX0_look_41 (lv_at hl 4 rfl) ?_
        refine z_iconst (pc := 43) hx hb dX0_look_43 ?_
        refine z_icmp_eq (tgt := 126) (pc := 44) hx hb dX0_look_44 (by decide) (by omega) (by omega) (fun c_2 => ?_) (fun c_2 => ?_)
        · exact wv_ret hx hb hrt hlk dX0_look_126 hP hS (by
            rcases nx_of hU S b (φ u) with h | ⟨x, h1, h2, h3, h4, h5⟩
            · exact ⟨u, φ, fw, lw, LE_of e1 h.2, by rw [e0]⟩
            · have h6 := (LK_step hs e1 h2 h3 h4 h5).1
              exact absurd h6 (by omega))
        · obtain ⟨x, hx2, hx3, hx4, hx5, hx6⟩ : ∃ x : Nat, z1 = (x : Int) ∧ φ u < x ∧ x ≤ 500 ∧ FF n st hr ca S b x ≠ 0 ∧ ∀ y : Nat, φ u < y → y < x → FF n st hr ca S b y = 0 := by
            rcases nx_of hU S b (φ u) with h | ⟨x, h1, h2, h3, h4, h5⟩
            · exact absurd (e2.trans h.1) (by omega)
            · exact ⟨x, e2.trans h1, h2, h3, h4, h5⟩
          have hst := LK_step hs e1 hx3 hx4 hx5 hx6
          have hRh := RR_eq n st hr S x
          have hFh := FF_eq n st hr ca S b x
          have hRg := cRk_rng (st := st) (hr := hr) (S := S) (t := z1) n.toNat
          have hFg := cFl_rng (st := st) (hr := hr) (ca := ca) (S := S) (b := b) (t := z1) n.toNat
          refine lv_aload_n (pc := 47) hx hb dX0_look_47 rfl (lv_at hl 1 rfl) ?_
          refine lv_iload_n (pc := 48) hx hb dX0_look_48 rfl (lv_at hl 2 rfl) ?_
          refine lv_iload (pc := 49) hx hb dX0_look_49 (lv_at hl 4 rfl) ?_
          refine rd_V (pc := 51) hx hb hml hown hT hK (c_X2_atRisk D cI cJ l ad n st hr ca zp fw lw k ts th sp hv pr hc hU (S) (by omega) (z1) (by omega)) ca_X2_atRisk tw_180 hP 1 2 rfl rfl rfl ⟨Nat.le_of_ble_eq_true rfl, Nat.le_of_ble_eq_true rfl⟩ rfl hl.1 (As := [.int (zi (S)), .int (zi (z1))]) (rest := []) rfl (Nat.le_of_ble_eq_true rfl) ⟨Nat.le_of_ble_eq_true rfl, Nat.le_of_ble_eq_true rfl⟩ dX0_look_51 ?_
          refine lv_istore (lv' := [(6, .int (zi ((cRk st hr (S) (z1) (n).toNat)))), (0, .ref (ad 2)), (1, .ref (ad 1)), (2, .int (zi (S))), (3, .int (zi (b))), (4, .int (zi (z1))), (5, .int (zi (z2)))]) (pc := 54) hx hb dX0_look_54 hl (by decide) rfl (fun ls hl => ?_)
          refine lv_aload_n (pc := 56) hx hb dX0_look_56 rfl (lv_at hl 1 rfl) ?_
          refine va_get (D := D) (cl := vwCl) (ci := 0) (v := .ref (ad 9)) (C := RX0) (T := TX0) (N := 3) (pc := 57) hx hb hT inT0 hown hK.1 hP 2 rfl rfl 0 (by decide) (hT _ tw_45) (fun _ h9 => h9) rfl dX0_look_57 ?_
          refine lv_iload (pc := 60) hx hb dX0_look_60 (lv_at hl 6 rfl) ?_
          refine lv_iload (pc := 62) hx hb dX0_look_62 (lv_at hl 5 rfl) ?_
          refine z_iast (pc := 64) hx hb hK hP hD hS 9 ((u + 1)) (f := fw) (x := z1) rfl (by omega) (by omega) (by omega) dX0_look_64 (fun H locs hP hD hS => ?_)
          replace hP : va_P D vwCl (wX ad cI cJ n st hr ca zp (uZ fw ((u + 1)) (z1)) lw k ts th sp hv pr hc) H := hP
          replace hD : va_D (inW (wX ad cI cJ n st hr ca pcs fr lv k ts th sp hv pr hc)) (wX ad cI cJ n st hr ca zp (uZ fw ((u + 1)) (z1)) lw k ts th sp hv pr hc) := hD
          refine lv_aload_n (pc := 65) hx hb dX0_look_65 rfl (lv_at hl 1 rfl) ?_
          refine va_get (D := D) (cl := vwCl) (ci := 0) (v := .ref (ad 10)) (C := RX0) (T := TX0) (N := 3) (pc := 66) hx hb hT inT0 hown hK.1 hP 2 rfl rfl 1 (by decide) (hT _ tw_46) (fun _ h9 => h9) rfl dX0_look_66 ?_
          refine lv_iload (pc := 69) hx hb dX0_look_69 (lv_at hl 6 rfl) ?_
          refine lv_aload_n (pc := 71) hx hb dX0_look_71 rfl (lv_at hl 1 rfl) ?_
          refine va_get (D := D) (cl := vwCl) (ci := 0) (v := .ref (ad 10)) (C := RX0) (T := TX0) (N := 3) (pc := 72) hx hb hT inT0 hown hK.1 hP 2 rfl rfl 1 (by decide) (hT _ tw_46) (fun _ h9 => h9) rfl dX0_look_72 ?_
          refine lv_iload (pc := 75) hx hb dX0_look_75 (lv_at hl 6 rfl) ?_
          refine z_iconst (pc := 77) hx hb dX0_look_77 ?_
          refine z_isub (pc := 78) hx hb dX0_look_78 ?_
          refine z_lald (pc := 79) hx hb hK hP 10 (u) (f := lw) rfl (by omega) (by omega) (by omega) dX0_look_79 ?_
          refine lv_iload (pc := 80) hx hb dX0_look_80 (lv_at hl 0 rfl) ?_
          refine lv_aload_n (pc := 82) hx hb dX0_look_82 rfl (lv_at hl 2 rfl) ?_
          refine lv_iload_n (pc := 83) hx hb dX0_look_83 rfl (lv_at hl 3 rfl) ?_
          refine lv_iload_n (pc := 84) hx hb dX0_look_84 rfl (lv_at hl 4 rfl) ?_
          refine lv_iload (pc := 85) hx hb dX0_look_85 (lv_at hl 5 rfl) ?_
          refine rd_V (pc := 87) hx hb hml hown hT hK (c_X2_failedAt D cI cJ l ad n st hr ca zp (uZ fw ((u + 1)) (z1)) lw k ts th sp hv pr hc hU (S) (by omega) (b) (by omega) (z1) (by omega)) ca_X2_failedAt tw_181 hP 1 2 rfl rfl rfl ⟨Nat.le_of_ble_eq_true rfl, Nat.le_of_ble_eq_true rfl⟩ rfl hl.1 (As := [.int (zi (S)), .int (zi (b)), .int (zi (z1))]) (rest := [.int (zi ((cRk st hr (S) (z1) (n).toNat))), .long (zj ((lw (u)))), .int (zi (z2)), .ref (ad 10)]) rfl (Nat.le_of_ble_eq_true rfl) ⟨Nat.le_of_ble_eq_true rfl, Nat.le_of_ble_eq_true rfl⟩ dX0_look_87 ?_
          refine z_isub (pc := 90) hx hb dX0_look_90 ?_
          refine z_i2l (pc := 91) hx hb (by omega) dX0_look_91 ?_
          refine z_lmul (pc := 92) hx hb dX0_look_92 ?_
          refine z_last (pc := 93) hx hb hK hP hD hS 10 ((u + 1)) (f := lw) (x := ((lw (u)) * ((cRk st hr (S) (z1) (n).toNat) - (cFl st hr ca (S) (b) (z1) (n).toNat)))) rfl (by omega) (by omega) (by omega) dX0_look_93 (fun H locs hP hD hS => ?_)
          replace hP : va_P D vwCl (wX ad cI cJ n st hr ca zp (uZ fw ((u + 1)) (z1)) (uZ lw ((u + 1)) (((lw (u)) * ((cRk st hr (S) (z1) (n).toNat) - (cFl st hr ca (S) (b) (z1) (n).toNat))))) k ts th sp hv pr hc) H := hP
          replace hD : va_D (inW (wX ad cI cJ n st hr ca pcs fr lv k ts th sp hv pr hc)) (wX ad cI cJ n st hr ca zp (uZ fw ((u + 1)) (z1)) (uZ lw ((u + 1)) (((lw (u)) * ((cRk st hr (S) (z1) (n).toNat) - (cFl st hr ca (S) (b) (z1) (n).toNat))))) k ts th sp hv pr hc) := hD
          refine lv_aload_n (pc := 94) hx hb dX0_look_94 rfl (lv_at hl 1 rfl) ?_
          refine lv_iload (pc := 95) hx hb dX0_look_95 (lv_at hl 6 rfl) ?_
          refine lv_iload (pc := 97) hx hb dX0_look_97 (lv_at hl 0 rfl) ?_
          refine wv_V (pc := 99) hx hb hml hown hT hK (c_X0_raiseAllBefore D cI cJ l ad n st hr ca zp (uZ fw ((u + 1)) (z1)) (uZ lw ((u + 1)) (((lw (u)) * ((cRk st hr (S) (z1) (n).toNat) - (cFl st hr ca (S) (b) (z1) (n).toNat))))) k ts th sp hv pr hc (z2) ((cRk st hr (S) (z1) (n).toNat)) ((u + 1)) (by omega) (by omega) (by omega)) ca_X0_raiseAllBefore tw_185 hP hD hS (fun q h => inW_same (by rfl) h) 2 0 rfl rfl rfl ⟨Nat.le_of_ble_eq_true rfl, Nat.le_of_ble_eq_true rfl⟩ rfl hl.1 (As := [.int (zi (z2)), .int (zi ((cRk st hr (S) (z1) (n).toNat)))]) (rest := []) rfl (Nat.le_of_ble_eq_true rfl) ⟨Nat.le_of_ble_eq_true rfl, Nat.le_of_ble_eq_true rfl⟩ dX0_look_99 (fun ws_ H locs hΦ hP hz_ hk_ hS => ?_)
          subst hΦ
          replace hP : va_P D vwCl (wX ad cI cJ n st hr ca zp (uZ fw ((u + 1)) (z1)) (raiseF (uZ lw ((u + 1)) (((lw (u)) * ((cRk st hr (S) (z1) (n).toNat) - (cFl st hr ca (S) (b) (z1) (n).toNat))))) ((cRk st hr (S) (z1) (n).toNat)) ((u + 1))) k ts th sp hv pr hc) H := hP
          replace hD : va_D (inW (wX ad cI cJ n st hr ca pcs fr lv k ts th sp hv pr hc)) (wX ad cI cJ n st hr ca zp (uZ fw ((u + 1)) (z1)) (raiseF (uZ lw ((u + 1)) (((lw (u)) * ((cRk st hr (S) (z1) (n).toNat) - (cFl st hr ca (S) (b) (z1) (n).toNat))))) ((cRk st hr (S) (z1) (n).toNat)) ((u + 1))) k ts th sp hv pr hc) := hD.same rfl
          refine lv_aload_n (pc := 102) hx hb dX0_look_102 rfl (lv_at hl 1 rfl) ?_
          refine lv_iload (pc := 103) hx hb dX0_look_103 (lv_at hl 6 rfl) ?_
          refine z_iconst (pc := 105) hx hb dX0_look_105 ?_
          refine z_iadd (pc := 106) hx hb dX0_look_106 ?_
          refine va_put (D := D) (cl := vwCl) (ci := 0) (v := .int (zi ((z2 + 1)))) (ty := .int) (C := RX0) (T := TX0) (N := 3) (pc := 107) hx hb hT inT0 tyX0 tyX0_ok nmX0 hown hK.1 hP hD hS 2 rfl rfl 2 (by decide) (hT _ tw_47) (fun _ h9 => h9) rfl (by decide +kernel) rfl rfl (Nat.le_of_ble_eq_true rfl) dX0_look_107 (fun H locs hP hD hS => ?_)
          replace hP : va_P D vwCl (wX ad cI cJ n st hr ca ((z2 + 1)) (uZ fw ((u + 1)) (z1)) (raiseF (uZ lw ((u + 1)) (((lw (u)) * ((cRk st hr (S) (z1) (n).toNat) - (cFl st hr ca (S) (b) (z1) (n).toNat))))) ((cRk st hr (S) (z1) (n).toNat)) ((u + 1))) k ts th sp hv pr hc) H := hP
          replace hD : va_D (inW (wX ad cI cJ n st hr ca pcs fr lv k ts th sp hv pr hc)) (wX ad cI cJ n st hr ca ((z2 + 1)) (uZ fw ((u + 1)) (z1)) (raiseF (uZ lw ((u + 1)) (((lw (u)) * ((cRk st hr (S) (z1) (n).toNat) - (cFl st hr ca (S) (b) (z1) (n).toNat))))) ((cRk st hr (S) (z1) (n).toNat)) ((u + 1))) k ts th sp hv pr hc) := hD
          refine lv_aload_n (pc := 110) hx hb dX0_look_110 rfl (lv_at hl 2 rfl) ?_
          refine lv_iload_n (pc := 111) hx hb dX0_look_111 rfl (lv_at hl 3 rfl) ?_
          refine lv_iload_n (pc := 112) hx hb dX0_look_112 rfl (lv_at hl 4 rfl) ?_
          refine lv_iload (pc := 113) hx hb dX0_look_113 (lv_at hl 5 rfl) ?_
          refine rd_V (pc := 115) hx hb hml hown hT hK (c_X2_nextFailure D cI cJ l ad n st hr ca ((z2 + 1)) (uZ fw ((u + 1)) (z1)) (raiseF (uZ lw ((u + 1)) (((lw (u)) * ((cRk st hr (S) (z1) (n).toNat) - (cFl st hr ca (S) (b) (z1) (n).toNat))))) ((cRk st hr (S) (z1) (n).toNat)) ((u + 1))) k ts th sp hv pr hc hU (S) (by omega) (b) (by omega) (z1) (by omega)) ca_X2_nextFailure tw_172 hP 1 2 rfl rfl rfl ⟨Nat.le_of_ble_eq_true rfl, Nat.le_of_ble_eq_true rfl⟩ rfl hl.1 (As := [.int (zi (S)), .int (zi (b)), .int (zi (z1))]) (rest := []) rfl (Nat.le_of_ble_eq_true rfl) ⟨Nat.le_of_ble_eq_true rfl, Nat.le_of_ble_eq_true rfl⟩ dX0_look_115 ?_
          refine lv_istore (lv' := [(4, .int (zi ((cNx st hr ca (S) (b) (z1) (n).toNat)))), (6, .int (zi ((cRk st hr (S) (z1) (n).toNat)))), (0, .ref (ad 2)), (1, .ref (ad 1)), (2, .int (zi (S))), (3, .int (zi (b))), (5, .int (zi (z2)))]) (pc := 118) hx hb dX0_look_118 hl (by decide) rfl (fun ls hl => ?_)
          refine lv_iinc (v := zi (z2 + 1)) (lv' := [(5, .int (zi ((z2 + 1)))), (4, .int (zi ((cNx st hr ca (S) (b) (z1) (n).toNat)))), (6, .int (zi ((cRk st hr (S) (z1) (n).toNat)))), (0, .ref (ad 2)), (1, .ref (ad 1)), (2, .int (zi (S))), (3, .int (zi (b)))]) (pc := 120) hx hb dX0_look_120 hl (k := 6) rfl (zi_add _ _) (by decide) rfl (fun ls hl => ?_)
          refine lv_goto (tgt := 31) (pc := 123) hx hb dX0_look_123 (by decide) ?_
          exact ih  _ _ _ (fun j => if j = u + 1 then x else φ j) _ _ _ _ (by omega) (by omega) (by rw [hx2, hRh, hFh]; exact hst.2) (by show _ = cNx st hr ca S b ((if u + 1 = u + 1 then x else φ (u + 1) : Nat) : Int) n.toNat; rw [if_pos rfl, ← hx2]) hP hD hS ls (lv_sub hl [3, 4, 5, 6, 1, 0] rfl)
  refine lv_aload_n (pc := 0) hx hb dX0_look_0 rfl (lv_at hl 0 rfl) ?_
  refine va_get (D := D) (cl := vwCl) (ci := 0) (v := .ref (ad 9)) (C := RX0) (T := TX0) (N := 3) (pc := 1) hx hb hT inT0 hown hK.1 hP 2 rfl rfl 0 (by decide) (hT _ tw_45) (fun _ h9 => h9) rfl dX0_look_1 ?_
  refine z_iconst (pc := 4) hx hb dX0_look_4 ?_
  refine z_iconst (pc := 5) hx hb dX0_look_5 ?_
  refine z_iast (pc := 6) hx hb hK hP hD hS 9 (0) (f := fr) (x := 0) rfl (by omega) (by omega) (by omega) dX0_look_6 (fun H locs hP hD hS => ?_)
  replace hP : va_P D vwCl (wX ad cI cJ n st hr ca pcs (uZ fr (0) (0)) lv k ts th sp hv pr hc) H := hP
  replace hD : va_D (inW (wX ad cI cJ n st hr ca pcs fr lv k ts th sp hv pr hc)) (wX ad cI cJ n st hr ca pcs (uZ fr (0) (0)) lv k ts th sp hv pr hc) := hD
  refine lv_aload_n (pc := 7) hx hb dX0_look_7 rfl (lv_at hl 0 rfl) ?_
  refine va_get (D := D) (cl := vwCl) (ci := 0) (v := .ref (ad 10)) (C := RX0) (T := TX0) (N := 3) (pc := 8) hx hb hT inT0 hown hK.1 hP 2 rfl rfl 1 (by decide) (hT _ tw_46) (fun _ h9 => h9) rfl dX0_look_8 ?_
  refine z_iconst (pc := 11) hx hb dX0_look_11 ?_
  refine z_lconst1 (pc := 12) hx hb dX0_look_12 ?_
  refine z_last (pc := 13) hx hb hK hP hD hS 10 (0) (f := lv) (x := 1) rfl (by omega) (by omega) (by omega) dX0_look_13 (fun H locs hP hD hS => ?_)
  replace hP : va_P D vwCl (wX ad cI cJ n st hr ca pcs (uZ fr (0) (0)) (uZ lv (0) (1)) k ts th sp hv pr hc) H := hP
  replace hD : va_D (inW (wX ad cI cJ n st hr ca pcs fr lv k ts th sp hv pr hc)) (wX ad cI cJ n st hr ca pcs (uZ fr (0) (0)) (uZ lv (0) (1)) k ts th sp hv pr hc) := hD
  refine lv_aload_n (pc := 14) hx hb dX0_look_14 rfl (lv_at hl 0 rfl) ?_
  refine z_iconst (pc := 15) hx hb dX0_look_15 ?_
  refine va_put (D := D) (cl := vwCl) (ci := 0) (v := .int (zi (1))) (ty := .int) (C := RX0) (T := TX0) (N := 3) (pc := 16) hx hb hT inT0 tyX0 tyX0_ok nmX0 hown hK.1 hP hD hS 2 rfl rfl 2 (by decide) (hT _ tw_47) (fun _ h9 => h9) rfl (by decide +kernel) rfl rfl (Nat.le_of_ble_eq_true rfl) dX0_look_16 (fun H locs hP hD hS => ?_)
  replace hP : va_P D vwCl (wX ad cI cJ n st hr ca 1 (uZ fr (0) (0)) (uZ lv (0) (1)) k ts th sp hv pr hc) H := hP
  replace hD : va_D (inW (wX ad cI cJ n st hr ca pcs fr lv k ts th sp hv pr hc)) (wX ad cI cJ n st hr ca 1 (uZ fr (0) (0)) (uZ lv (0) (1)) k ts th sp hv pr hc) := hD
  refine lv_aload_n (pc := 19) hx hb dX0_look_19 rfl (lv_at hl 1 rfl) ?_
  refine lv_iload_n (pc := 20) hx hb dX0_look_20 rfl (lv_at hl 2 rfl) ?_
  refine lv_iload_n (pc := 21) hx hb dX0_look_21 rfl (lv_at hl 3 rfl) ?_
  refine z_iconst (pc := 22) hx hb dX0_look_22 ?_
  refine rd_V (pc := 23) hx hb hml hown hT hK (c_X2_nextFailure D cI cJ l ad n st hr ca 1 (uZ fr (0) (0)) (uZ lv (0) (1)) k ts th sp hv pr hc hU (S) (by omega) (b) (by omega) (0) (by omega)) ca_X2_nextFailure tw_172 hP 1 2 rfl rfl rfl ⟨Nat.le_of_ble_eq_true rfl, Nat.le_of_ble_eq_true rfl⟩ rfl hl.1 (As := [.int (zi (S)), .int (zi (b)), .int (zi (0))]) (rest := []) rfl (Nat.le_of_ble_eq_true rfl) ⟨Nat.le_of_ble_eq_true rfl, Nat.le_of_ble_eq_true rfl⟩ dX0_look_23 ?_
  refine lv_istore (lv' := [(4, .int (zi ((cNx st hr ca (S) (b) (0) (n).toNat)))), (0, .ref (ad 2)), (1, .ref (ad 1)), (2, .int (zi (S))), (3, .int (zi (b)))]) (pc := 26) hx hb dX0_look_26 hl (by decide) rfl (fun ls hl => ?_)
  refine z_iconst (pc := 28) hx hb dX0_look_28 ?_
  refine lv_istore (lv' := [(5, .int (zi (1))), (4, .int (zi ((cNx st hr ca (S) (b) (0) (n).toNat)))), (0, .ref (ad 2)), (1, .ref (ad 1)), (2, .int (zi (S))), (3, .int (zi (b)))]) (pc := 29) hx hb dX0_look_29 hl (by decide) rfl (fun ls hl => ?_)
  exact loop 0 (by omega) _ _ _ _ _ _ _ _ (by omega) (by omega) (LK_0 hs fr lv) (by rfl) hP hD hS ls (lv_sub hl [2, 3, 4, 5, 1, 0] rfl)

set_option maxHeartbeats 4000000 in
set_option maxRecDepth 100000 in
theorem c_X0_whole (D : va_G) (cI cJ : ClassId) (l : Launch) (ad : Nat → Nat) (n : Int) (st hr ca : Nat → Int) (pcs : Int) (fr lv : Nat → Int) (k : Int) (ts th sp hv : Nat → Int) (pr hc : Int) (F R : Nat → Nat) (hs : STd F R) (i : Nat) (φ : Nat → Nat) (hE : LE F R i φ fr lv) (hp : pcs = (i : Int) + 1) : RD D cI cJ l yX0_whole cX0_whole 1 (some .long) 0 0 [.ref (ad 2)] (wX ad cI cJ n st hr ca pcs fr lv k ts th sp hv pr hc) (.long (zj ((lev F R 0 : Int)))) := by
  refine RD.of (by decide) (Nat.le_of_ble_eq_true rfl) ?_
  intro p e s m args below meth c hx hb hrt hml hown hT hlk hK hP ls hl
  replace hl : lv_has ls 1 [(0, .ref (ad 2))] := hl
  obtain ⟨hi12, hφ0, hφi, hφm, hφz, hφe, hfr0, hlv0⟩ := id hE
  have hfr : ∀ j : Nat, j ≤ i → fr j = (φ j : Int) ∧ φ j ≤ 500 := fun j hj => ⟨(hfr0 j hj).1, by have := (hfr0 j hj).2; omega⟩
  have hlv : ∀ j : Nat, j ≤ i → lv j = (lev F R (φ j) : Int) ∧ lev F R (φ j) ≤ 479001600 := fun j hj => ⟨hlv0 j hj, lev_rng hs (hfr j hj).2⟩
  refine lv_aload_n (pc := 0) hx hb dX0_whole_0 rfl (lv_at hl 0 rfl) ?_
  refine va_get (D := D) (cl := vwCl) (ci := 0) (v := .ref (ad 10)) (C := RX0) (T := TX0) (N := 3) (pc := 1) hx hb hT inT0 hown hK.1 hP 2 rfl rfl 1 (by decide) (hT _ tw_46) (fun _ h9 => h9) rfl dX0_whole_1 ?_
  refine z_iconst (pc := 4) hx hb dX0_whole_4 ?_
  refine z_lald (pc := 5) hx hb hK hP 10 (0) (f := lv) rfl (by omega) (by omega) (by omega) dX0_whole_5 ?_
  have r_1 := hlv (0) (by omega)
  exact rd_lret hx hb hrt hlk dX0_whole_6 (by rw [r_1.1, hφ0])

set_option maxHeartbeats 4000000 in
set_option maxRecDepth 100000 in
theorem c_X0_levelAt (D : va_G) (cI cJ : ClassId) (l : Launch) (ad : Nat → Nat) (n : Int) (st hr ca : Nat → Int) (pcs : Int) (fr lv : Nat → Int) (k : Int) (ts th sp hv : Nat → Int) (pr hc : Int) (F R : Nat → Nat) (hs : STd F R) (i : Nat) (φ : Nat → Nat) (hE : LE F R i φ fr lv) (hp : pcs = (i : Int) + 1) (z : Int) (t : Nat) (hz : z = (t : Int)) (ht : t ≤ 500) : RD D cI cJ l yX0_levelAt cX0_levelAt 4 (some .long) 0 0 [.ref (ad 2), .int (zi (z))] (wX ad cI cJ n st hr ca pcs fr lv k ts th sp hv pr hc) (.long (zj ((lev F R t : Int)))) := by
  subst hz
  refine RD.of (by decide) (Nat.le_of_ble_eq_true rfl) ?_
  intro p e s m args below meth c hx hb hrt hml hown hT hlk hK hP ls hl
  replace hl : lv_has ls 4 [(0, .ref (ad 2)), (1, .int (zi ((t : Int))))] := hl
  obtain ⟨hi12, hφ0, hφi, hφm, hφz, hφe, hfr0, hlv0⟩ := id hE
  have hfr : ∀ j : Nat, j ≤ i → fr j = (φ j : Int) ∧ φ j ≤ 500 := fun j hj => ⟨(hfr0 j hj).1, by have := (hfr0 j hj).2; omega⟩
  have hlv : ∀ j : Nat, j ≤ i → lv j = (lev F R (φ j) : Int) ∧ lev F R (φ j) ≤ 479001600 := fun j hj => ⟨hlv0 j hj, lev_rng hs (hfr j hj).2⟩
  have loop : ∀ u : Nat, u ≤ (i + 1) → ∀ (z1 z2 : Int), (1 ≤ u) → (z1 = (u : Int) - 1) → (z2 = (u : Int)) → (φ (u - 1) ≤ t) → ∀ ls : Array Slot, lv_has ls 4 [(0, .ref (ad 2)), (1, .int (zi ((t : Int)))), (2, .int (zi (z1))), (3, .int (zi (z2)))] → W p l e (RM 0 0) s m args below meth c s.heap [] 0 0 (MQ below (QR (.long (zj ((lev F R t : Int)))) s.heap) args s 0 0 (fun _ => False)) (F0 m 4 ls []) := by
    refine lp_up (fun u => ∀ (z1 z2 : Int), (1 ≤ u) → (z1 = (u : Int) - 1) → (z2 = (u : Int)) → (φ (u - 1) ≤ t) → ∀ ls : Array Slot, lv_has ls 4 [(0, .ref (ad 2)), (1, .int (zi ((t : Int)))), (2, .int (zi (z1))), (3, .int (zi (z2)))] → W p l e (RM 0 0) s m args below meth c s.heap [] 0 0 (MQ below (QR (.long (zj ((lev F R t : Int)))) s.heap) args s 0 0 (fun _ => False)) (F0 m 4 ls [])) ((i + 1)) ?_ ?_
    · intro z1 z2 e0 e1 e2 e3 ls hl
      refine lv_iload_n (pc := 4) hx hb dX0_levelAt_4 rfl (lv_at hl 3 rfl) ?_
      refine lv_aload_n (pc := 5) hx hb dX0_levelAt_5 rfl (lv_at hl 0 rfl) ?_
      refine va_get (D := D) (cl := vwCl) (ci := 0) (v := .int (zi (pcs))) (C := RX0) (T := TX0) (N := 3) (pc := 6) hx hb hT inT0 hown hK.1 hP 2 rfl rfl 2 (by decide) (hT _ tw_47) (fun _ h9 => h9) rfl dX0_levelAt_6 ?_
      refine z_icmp_ge (tgt := 30) (pc := 9) hx hb dX0_levelAt_9 (by decide) (by omega) (by omega) (fun c_1 => ?_) (fun c_1 => absurd c_1 (by omega))
      refine lv_aload_n (pc := 30) hx hb dX0_levelAt_30 rfl (lv_at hl 0 rfl) ?_
      refine va_get (D := D) (cl := vwCl) (ci := 0) (v := .ref (ad 10)) (C := RX0) (T := TX0) (N := 3) (pc := 31) hx hb hT inT0 hown hK.1 hP 2 rfl rfl 1 (by decide) (hT _ tw_46) (fun _ h9 => h9) rfl dX0_levelAt_31 ?_
      refine lv_iload_n (pc := 34) hx hb dX0_levelAt_34 rfl (lv_at hl 2 rfl) ?_
      refine z_lald (pc := 35) hx hb hK hP 10 ((((i + 1)) - 1)) (f := lv) rfl (by omega) (by omega) (by omega) dX0_levelAt_35 ?_
      have r_2 := hlv ((((i + 1)) - 1)) (by omega)
      exact rd_lret hx hb hrt hlk dX0_levelAt_36 (by rw [(hlv (i + 1 - 1) (by omega)).1, LE_lev hE (u := i + 1 - 1) (by omega) e3 (by rw [nxt, if_neg (by omega)]; omega)])
    · intro u hu ih z1 z2 e0 e1 e2 e3 ls hl
      refine lv_iload_n (pc := 4) hx hb dX0_levelAt_4 rfl (lv_at hl 3 rfl) ?_
      refine lv_aload_n (pc := 5) hx hb dX0_levelAt_5 rfl (lv_at hl 0 rfl) ?_
      refine va_get (D := D) (cl := vwCl) (ci := 0) (v := .int (zi (pcs))) (C := RX0) (T := TX0) (N := 3) (pc := 6) hx hb hT inT0 hown hK.1 hP 2 rfl rfl 2 (by decide) (hT _ tw_47) (fun _ h9 => h9) rfl dX0_levelAt_6 ?_
      refine z_icmp_ge (tgt := 30) (pc := 9) hx hb dX0_levelAt_9 (by decide) (by omega) (by omega) (fun c_3 => absurd c_3 (by omega)) (fun c_3 => ?_)
      refine lv_aload_n (pc := 12) hx hb dX0_levelAt_12 rfl (lv_at hl 0 rfl) ?_
      refine va_get (D := D) (cl := vwCl) (ci := 0) (v := .ref (ad 9)) (C := RX0) (T := TX0) (N := 3) (pc := 13) hx hb hT inT0 hown hK.1 hP 2 rfl rfl 0 (by decide) (hT _ tw_45) (fun _ h9 => h9) rfl dX0_levelAt_13 ?_
      refine lv_iload_n (pc := 16) hx hb dX0_levelAt_16 rfl (lv_at hl 3 rfl) ?_
      refine z_iald (pc := 17) hx hb hK hP 9 (u) (f := fr) rfl (by omega) (by omega) (by omega) dX0_levelAt_17 ?_
      have r_4 := hfr (u) (by omega)
      refine lv_iload_n (pc := 18) hx hb dX0_levelAt_18 rfl (lv_at hl 1 rfl) ?_
      refine z_icmp_gt (tgt := 30) (pc := 19) hx hb dX0_levelAt_19 (by decide) (by omega) (by omega) (fun c_5 => ?_) (fun c_5 => ?_)
      · refine lv_aload_n (pc := 30) hx hb dX0_levelAt_30 rfl (lv_at hl 0 rfl) ?_
        refine va_get (D := D) (cl := vwCl) (ci := 0) (v := .ref (ad 10)) (C := RX0) (T := TX0) (N := 3) (pc := 31) hx hb hT inT0 hown hK.1 hP 2 rfl rfl 1 (by decide) (hT _ tw_46) (fun _ h9 => h9) rfl dX0_levelAt_31 ?_
        refine lv_iload_n (pc := 34) hx hb dX0_levelAt_34 rfl (lv_at hl 2 rfl) ?_
        refine z_lald (pc := 35) hx hb hK hP 10 ((u - 1)) (f := lv) rfl (by omega) (by omega) (by omega) dX0_levelAt_35 ?_
        have r_6 := hlv ((u - 1)) (by omega)
        exact rd_lret hx hb hrt hlk dX0_levelAt_36 (by rw [(hlv (u - 1) (by omega)).1, LE_lev hE (u := u - 1) (by omega) e3 (by rw [nxt, show u - 1 + 1 = u by omega, if_pos (by omega)]; omega)])
      · refine lv_iload_n (pc := 22) hx hb dX0_levelAt_22 rfl (lv_at hl 3 rfl) ?_
        refine lv_istore_n (lv' := [(2, .int (zi (z2))), (0, .ref (ad 2)), (1, .int (zi ((t : Int)))), (3, .int (zi (z2)))]) (pc := 23) hx hb dX0_levelAt_23 rfl hl (by decide) rfl (fun ls hl => ?_)
        refine lv_iinc (v := zi (z2 + 1)) (lv' := [(3, .int (zi ((z2 + 1)))), (2, .int (zi (z2))), (0, .ref (ad 2)), (1, .int (zi ((t : Int))))]) (pc := 24) hx hb dX0_levelAt_24 hl (k := 3) rfl (zi_add _ _) (by decide) rfl (fun ls hl => ?_)
        refine lv_goto (tgt := 4) (pc := 27) hx hb dX0_levelAt_27 (by decide) ?_
        exact ih  _ _ (by omega) (by omega) (by omega) (by rw [Nat.add_sub_cancel]; omega) ls (lv_sub hl [2, 3, 1, 0] rfl)
  refine z_iconst (pc := 0) hx hb dX0_levelAt_0 ?_
  refine lv_istore_n (lv' := [(2, .int (zi (0))), (0, .ref (ad 2)), (1, .int (zi ((t : Int))))]) (pc := 1) hx hb dX0_levelAt_1 rfl hl (by decide) rfl (fun ls hl => ?_)
  refine z_iconst (pc := 2) hx hb dX0_levelAt_2 ?_
  refine lv_istore_n (lv' := [(3, .int (zi (1))), (2, .int (zi (0))), (0, .ref (ad 2)), (1, .int (zi ((t : Int))))]) (pc := 3) hx hb dX0_levelAt_3 rfl hl (by decide) rfl (fun ls hl => ?_)
  exact loop 1 (by omega) _ _ (by omega) (by omega) (by rfl) (by show φ 0 ≤ t; omega) ls (lv_sub hl [2, 3, 1, 0] rfl)

set_option maxHeartbeats 4000000 in
set_option maxRecDepth 100000 in
theorem c_X0_firstAtMost (D : va_G) (cI cJ : ClassId) (l : Launch) (ad : Nat → Nat) (n : Int) (st hr ca : Nat → Int) (pcs : Int) (fr lv : Nat → Int) (k : Int) (ts th sp hv : Nat → Int) (pr hc : Int) (F R : Nat → Nat) (hs : STd F R) (i : Nat) (φ : Nat → Nat) (hE : LE F R i φ fr lv) (hp : pcs = (i : Int) + 1) (a b : Int) (hab : 0 ≤ a ∧ a ≤ 1000 ∧ 1 ≤ b ∧ b ≤ 1000) : RD D cI cJ l yX0_firstAtMost cX0_firstAtMost 4 (some .int) 1 20 [.ref (ad 2), .int (zi (a)), .int (zi (b))] (wX ad cI cJ n st hr ca pcs fr lv k ts th sp hv pr hc) (.int (zi (timeF (tmT F R a b) 501))) := by
  refine RD.of (by decide) (Nat.le_of_ble_eq_true rfl) ?_
  intro p e s m args below meth c hx hb hrt hml hown hT hlk hK hP ls hl
  replace hl : lv_has ls 4 [(0, .ref (ad 2)), (1, .int (zi (a))), (2, .int (zi (b)))] := hl
  obtain ⟨hi12, hφ0, hφi, hφm, hφz, hφe, hfr0, hlv0⟩ := id hE
  have hfr : ∀ j : Nat, j ≤ i → fr j = (φ j : Int) ∧ φ j ≤ 500 := fun j hj => ⟨(hfr0 j hj).1, by have := (hfr0 j hj).2; omega⟩
  have hlv : ∀ j : Nat, j ≤ i → lv j = (lev F R (φ j) : Int) ∧ lev F R (φ j) ≤ 479001600 := fun j hj => ⟨hlv0 j hj, lev_rng hs (hfr j hj).2⟩
  have loop : ∀ u : Nat, u ≤ (i + 1) → ∀ (z1 : Int), (z1 = (u : Int)) → (timeF (tmT F R a b) 501 = timeF (tmT F R a b) (501 - nxt φ i u)) → ∀ ls : Array Slot, lv_has ls 4 [(0, .ref (ad 2)), (1, .int (zi (a))), (2, .int (zi (b))), (3, .int (zi (z1)))] → W p l e (RM 1 20) s m args below meth c s.heap [] 0 0 (MQ below (QR (.int (zi (timeF (tmT F R a b) 501))) s.heap) args s 0 0 (fun _ => False)) (F0 m 2 ls []) := by
    refine lp_up (fun u => ∀ (z1 : Int), (z1 = (u : Int)) → (timeF (tmT F R a b) 501 = timeF (tmT F R a b) (501 - nxt φ i u)) → ∀ ls : Array Slot, lv_has ls 4 [(0, .ref (ad 2)), (1, .int (zi (a))), (2, .int (zi (b))), (3, .int (zi (z1)))] → W p l e (RM 1 20) s m args below meth c s.heap [] 0 0 (MQ below (QR (.int (zi (timeF (tmT F R a b) 501))) s.heap) args s 0 0 (fun _ => False)) (F0 m 2 ls [])) ((i + 1)) ?_ ?_
    · intro z1 e1 e2 ls hl
      refine lv_iload_n (pc := 2) hx hb dX0_firstAtMost_2 rfl (lv_at hl 3 rfl) ?_
      refine lv_aload_n (pc := 3) hx hb dX0_firstAtMost_3 rfl (lv_at hl 0 rfl) ?_
      refine va_get (D := D) (cl := vwCl) (ci := 0) (v := .int (zi (pcs))) (C := RX0) (T := TX0) (N := 3) (pc := 4) hx hb hT inT0 hown hK.1 hP 2 rfl rfl 2 (by decide) (hT _ tw_47) (fun _ h9 => h9) rfl dX0_firstAtMost_4 ?_
      refine z_icmp_ge (tgt := 43) (pc := 7) hx hb dX0_firstAtMost_7 (by decide) (by omega) (by omega) (fun c_1 => ?_) (fun c_1 => absurd c_1 (by omega))
      refine z_iconst (pc := 43) hx hb dX0_firstAtMost_43 ?_
      exact rd_iret hx hb hrt hlk dX0_firstAtMost_44 (by rw [e2, nxt, if_neg (by omega)]; rfl)
    · intro u hu ih z1 e1 e2 ls hl
      refine lv_iload_n (pc := 2) hx hb dX0_firstAtMost_2 rfl (lv_at hl 3 rfl) ?_
      refine lv_aload_n (pc := 3) hx hb dX0_firstAtMost_3 rfl (lv_at hl 0 rfl) ?_
      refine va_get (D := D) (cl := vwCl) (ci := 0) (v := .int (zi (pcs))) (C := RX0) (T := TX0) (N := 3) (pc := 4) hx hb hT inT0 hown hK.1 hP 2 rfl rfl 2 (by decide) (hT _ tw_47) (fun _ h9 => h9) rfl dX0_firstAtMost_4 ?_
      refine z_icmp_ge (tgt := 43) (pc := 7) hx hb dX0_firstAtMost_7 (by decide) (by omega) (by omega) (fun c_2 => absurd c_2 (by omega)) (fun c_2 => ?_)
      refine lv_aload_n (pc := 10) hx hb dX0_firstAtMost_10 rfl (lv_at hl 0 rfl) ?_
      refine va_get (D := D) (cl := vwCl) (ci := 0) (v := .ref (ad 10)) (C := RX0) (T := TX0) (N := 3) (pc := 11) hx hb hT inT0 hown hK.1 hP 2 rfl rfl 1 (by decide) (hT _ tw_46) (fun _ h9 => h9) rfl dX0_firstAtMost_11 ?_
      refine lv_iload_n (pc := 14) hx hb dX0_firstAtMost_14 rfl (lv_at hl 3 rfl) ?_
      refine z_lald (pc := 15) hx hb hK hP 10 (u) (f := lv) rfl (by omega) (by omega) (by omega) dX0_firstAtMost_15 ?_
      have r_3 := hlv (u) (by omega)
      refine lv_iload_n (pc := 16) hx hb dX0_firstAtMost_16 rfl (lv_at hl 2 rfl) ?_
      refine z_i2l (pc := 17) hx hb (by omega) dX0_firstAtMost_17 ?_
      have hlu := hlv u (by omega)
      have hnx := LE_nxt hE (u := u) (by omega)
      have h0 := (lev_0 hs).2
      have hm1 := mul_rng (a := lv u) (b := b) (A := 479001600) (B := 1000) (by omega) (by omega)
      have hm2 := mul_rng (a := (lev F R 0 : Int)) (b := a) (A := 479001600) (B := 1000) (by omega) (by omega)
      refine z_lmul (pc := 18) hx hb dX0_firstAtMost_18 ?_
      refine lv_aload_n (pc := 19) hx hb dX0_firstAtMost_19 rfl (lv_at hl 0 rfl) ?_
      refine rd_V (pc := 20) hx hb hml hown hT hK (c_X0_whole D cI cJ l ad n st hr ca pcs fr lv k ts th sp hv pr hc F R hs i φ hE hp) ca_X0_whole tw_211 hP 2 0 rfl rfl rfl ⟨Nat.le_of_ble_eq_true rfl, Nat.le_of_ble_eq_true rfl⟩ rfl hl.1 (As := []) (rest := [.long (zj (((lv (u)) * b)))]) rfl (Nat.le_of_ble_eq_true rfl) ⟨Nat.le_of_ble_eq_true rfl, Nat.le_of_ble_eq_true rfl⟩ dX0_firstAtMost_20 ?_
      refine lv_iload_n (pc := 23) hx hb dX0_firstAtMost_23 rfl (lv_at hl 1 rfl) ?_
      refine z_i2l (pc := 24) hx hb (by omega) dX0_firstAtMost_24 ?_
      refine z_lmul (pc := 25) hx hb dX0_firstAtMost_25 ?_
      refine z_lcmp_gt (tgt := 37) (pc := 26) hx hb dX0_firstAtMost_26 dX0_firstAtMost_27 (by decide) (by omega) (by omega) (fun c_4 => ?_) (fun c_4 => ?_)
      · refine lv_iinc (v := zi (z1 + 1)) (lv' := [(3, .int (zi ((z1 + 1)))), (0, .ref (ad 2)), (1, .int (zi (a))), (2, .int (zi (b)))]) (pc := 37) hx hb dX0_firstAtMost_37 hl (k := 3) rfl (zi_add _ _) (by decide) rfl (fun ls hl => ?_)
        refine lv_goto (tgt := 2) (pc := 40) hx hb dX0_firstAtMost_40 (by decide) ?_
        exact ih  _ (by omega) (by rw [e2, nxt, if_pos (by omega)]; exact timeF_to (by omega) (by omega) (fun t h1 h2 => by rw [tmT, LE_lev hE (by omega) h1 h2, ← hlu.1]; omega)) ls (lv_sub hl [1, 2, 3, 0] rfl)
      · refine lv_aload_n (pc := 30) hx hb dX0_firstAtMost_30 rfl (lv_at hl 0 rfl) ?_
        refine va_get (D := D) (cl := vwCl) (ci := 0) (v := .ref (ad 9)) (C := RX0) (T := TX0) (N := 3) (pc := 31) hx hb hT inT0 hown hK.1 hP 2 rfl rfl 0 (by decide) (hT _ tw_45) (fun _ h9 => h9) rfl dX0_firstAtMost_31 ?_
        refine lv_iload_n (pc := 34) hx hb dX0_firstAtMost_34 rfl (lv_at hl 3 rfl) ?_
        refine z_iald (pc := 35) hx hb hK hP 9 (u) (f := fr) rfl (by omega) (by omega) (by omega) dX0_firstAtMost_35 ?_
        have r_5 := hfr (u) (by omega)
        exact rd_iret hx hb hrt hlk dX0_firstAtMost_36 (by rw [e2, nxt, if_pos (by omega), timeF_hit (hfr u (by omega)).2 (by rw [tmT, ← hlu.1]; omega), (hfr u (by omega)).1])
  refine z_iconst (pc := 0) hx hb dX0_firstAtMost_0 ?_
  refine lv_istore_n (lv' := [(3, .int (zi (0))), (0, .ref (ad 2)), (1, .int (zi (a))), (2, .int (zi (b)))]) (pc := 1) hx hb dX0_firstAtMost_1 rfl hl (by decide) rfl (fun ls hl => ?_)
  exact loop 0 (by omega) _ (by rfl) (by rw [nxt, if_pos (by omega), hφ0]) ls (lv_sub hl [1, 2, 3, 0] rfl)

set_option maxHeartbeats 4000000 in
set_option maxRecDepth 100000 in
theorem c_X0_sumOf (D : va_G) (cI cJ : ClassId) (l : Launch) (ad : Nat → Nat) (n : Int) (st hr ca : Nat → Int) (pcs : Int) (fr lv : Nat → Int) (k : Int) (ts th sp hv : Nat → Int) (pr hc : Int) (F R : Nat → Nat) (hs : STd F R) (i : Nat) (φ : Nat → Nat) (hE : LE F R i φ fr lv) (hp : pcs = (i : Int) + 1) (x y : Int) (B E : Nat) (hx0 : x = (B : Int)) (hy0 : y = (E : Int)) (hBE : B ≤ E ∧ E ≤ 500) : RD D cI cJ l yX0_sumOf cX0_sumOf 8 (some .long) 1 21 [.ref (ad 2), .int (zi (x)), .int (zi (y))] (wX ad cI cJ n st hr ca pcs fr lv k ts th sp hv pr hc) (.long (zj ((sumL (lev F R) B (E - B) : Int)))) := by
  subst hx0
  subst hy0
  refine RD.of (by decide) (Nat.le_of_ble_eq_true rfl) ?_
  intro p e s m args below meth c hx hb hrt hml hown hT hlk hK hP ls hl
  replace hl : lv_has ls 8 [(0, .ref (ad 2)), (1, .int (zi ((B : Int)))), (2, .int (zi ((E : Int))))] := hl
  obtain ⟨hi12, hφ0, hφi, hφm, hφz, hφe, hfr0, hlv0⟩ := id hE
  have hfr : ∀ j : Nat, j ≤ i → fr j = (φ j : Int) ∧ φ j ≤ 500 := fun j hj => ⟨(hfr0 j hj).1, by have := (hfr0 j hj).2; omega⟩
  have hlv : ∀ j : Nat, j ≤ i → lv j = (lev F R (φ j) : Int) ∧ lev F R (φ j) ≤ 479001600 := fun j hj => ⟨hlv0 j hj, lev_rng hs (hfr j hj).2⟩
  have loop : ∀ u : Nat, u ≤ (i + 1) → ∀ (z1 z2 : Int), (z1 = (sumL (lev F R) B (min (nxt φ i u) E - B) : Int)) → (z2 = (u : Int)) → ∀ ls : Array Slot, lv_has ls 8 [(0, .ref (ad 2)), (1, .int (zi ((B : Int)))), (2, .int (zi ((E : Int)))), (3, .long (zj (z1))), (5, .int (zi (z2)))] → W p l e (RM 1 21) s m args below meth c s.heap [] 0 0 (MQ below (QR (.long (zj ((sumL (lev F R) B (E - B) : Int)))) s.heap) args s 0 0 (fun _ => False)) (F0 m 5 ls []) := by
    refine lp_up (fun u => ∀ (z1 z2 : Int), (z1 = (sumL (lev F R) B (min (nxt φ i u) E - B) : Int)) → (z2 = (u : Int)) → ∀ ls : Array Slot, lv_has ls 8 [(0, .ref (ad 2)), (1, .int (zi ((B : Int)))), (2, .int (zi ((E : Int)))), (3, .long (zj (z1))), (5, .int (zi (z2)))] → W p l e (RM 1 21) s m args below meth c s.heap [] 0 0 (MQ below (QR (.long (zj ((sumL (lev F R) B (E - B) : Int)))) s.heap) args s 0 0 (fun _ => False)) (F0 m 5 ls [])) ((i + 1)) ?_ ?_
    · intro z1 z2 e1 e2 ls hl
      refine lv_iload (pc := 5) hx hb dX0_sumOf_5 (lv_at hl 4 rfl) ?_
      refine lv_aload_n (pc := 7) hx hb dX0_sumOf_7 rfl (lv_at hl 0 rfl) ?_
      refine va_get (D := D) (cl := vwCl) (ci := 0) (v := .int (zi (pcs))) (C := RX0) (T := TX0) (N := 3) (pc := 8) hx hb hT inT0 hown hK.1 hP 2 rfl rfl 2 (by decide) (hT _ tw_47) (fun _ h9 => h9) rfl dX0_sumOf_8 ?_
      refine z_icmp_ge (tgt := 84) (pc := 11) hx hb dX0_sumOf_11 (by decide) (by omega) (by omega) (fun c_1 => ?_) (fun c_1 => absurd c_1 (by omega))
      refine lv_lload_n (pc := 84) hx hb dX0_sumOf_84 rfl (lv_at hl 3 rfl) ?_
      exact rd_lret hx hb hrt hlk dX0_sumOf_85 (by rw [e1, nxt, if_neg (by omega), show min 501 E = E by omega])
    · intro u hu ih z1 z2 e1 e2 ls hl
      refine lv_iload (pc := 5) hx hb dX0_sumOf_5 (lv_at hl 4 rfl) ?_
      refine lv_aload_n (pc := 7) hx hb dX0_sumOf_7 rfl (lv_at hl 0 rfl) ?_
      refine va_get (D := D) (cl := vwCl) (ci := 0) (v := .int (zi (pcs))) (C := RX0) (T := TX0) (N := 3) (pc := 8) hx hb hT inT0 hown hK.1 hP 2 rfl rfl 2 (by decide) (hT _ tw_47) (fun _ h9 => h9) rfl dX0_sumOf_8 ?_
      refine z_icmp_ge (tgt := 84) (pc := 11) hx hb dX0_sumOf_11 (by decide) (by omega) (by omega) (fun c_2 => absurd c_2 (by omega)) (fun c_2 => ?_)
      refine lv_iload (pc := 14) hx hb dX0_sumOf_14 (lv_at hl 4 rfl) ?_
      refine z_iconst (pc := 16) hx hb dX0_sumOf_16 ?_
      refine z_iadd (pc := 17) hx hb dX0_sumOf_17 ?_
      refine lv_aload_n (pc := 18) hx hb dX0_sumOf_18 rfl (lv_at hl 0 rfl) ?_
      refine va_get (D := D) (cl := vwCl) (ci := 0) (v := .int (zi (pcs))) (C := RX0) (T := TX0) (N := 3) (pc := 19) hx hb hT inT0 hown hK.1 hP 2 rfl rfl 2 (by decide) (hT _ tw_47) (fun _ h9 => h9) rfl dX0_sumOf_19 ?_
      refine z_icmp_ge (tgt := 37) (pc := 22) hx hb dX0_sumOf_22 (by decide) (by omega) (by omega) (fun c_3 => ?_) (fun c_3 => ?_)
      · have hlu := hlv u (by omega)
        have hfu := hfr u (by omega)
        refine lv_iload_n (pc := 37) hx hb dX0_sumOf_37 rfl (lv_at hl 2 rfl) ?_
        refine lv_istore (lv' := [(6, .int (zi ((E : Int)))), (0, .ref (ad 2)), (1, .int (zi ((B : Int)))), (2, .int (zi ((E : Int)))), (3, .long (zj (z1))), (5, .int (zi (z2)))]) (pc := 38) hx hb dX0_sumOf_38 hl (by decide) rfl (fun ls hl => ?_)
        refine lv_iload (pc := 40) hx hb dX0_sumOf_40 (lv_at hl 0 rfl) ?_
        refine lv_iload_n (pc := 42) hx hb dX0_sumOf_42 rfl (lv_at hl 3 rfl) ?_
        refine z_mmin (pc := 43) hx hb (hml.trans hl.1.symm) hown (hT _ tw_220) (hT _ tw_221) (hT _ tw_6) (hT _ tw_222) (Nat.le_of_ble_eq_true rfl) (Nat.le_of_ble_eq_true rfl) (Nat.le_of_ble_eq_true rfl) (Nat.le_of_ble_eq_true rfl) (by omega) (by omega) dX0_sumOf_43 ?_
        refine lv_aload_n (pc := 46) hx hb dX0_sumOf_46 rfl (lv_at hl 1 rfl) ?_
        refine va_get (D := D) (cl := vwCl) (ci := 0) (v := .ref (ad 9)) (C := RX0) (T := TX0) (N := 3) (pc := 47) hx hb hT inT0 hown hK.1 hP 2 rfl rfl 0 (by decide) (hT _ tw_45) (fun _ h9 => h9) rfl dX0_sumOf_47 ?_
        refine lv_iload (pc := 50) hx hb dX0_sumOf_50 (lv_at hl 5 rfl) ?_
        refine z_iald (pc := 52) hx hb hK hP 9 (u) (f := fr) rfl (by omega) (by omega) (by omega) dX0_sumOf_52 ?_
        have r_4 := hfr (u) (by omega)
        refine lv_iload_n (pc := 53) hx hb dX0_sumOf_53 rfl (lv_at hl 2 rfl) ?_
        refine z_mmax (pc := 54) hx hb (hml.trans hl.1.symm) hown (hT _ tw_223) (hT _ tw_224) (hT _ tw_6) (hT _ tw_225) (Nat.le_of_ble_eq_true rfl) (Nat.le_of_ble_eq_true rfl) (Nat.le_of_ble_eq_true rfl) (Nat.le_of_ble_eq_true rfl) (by omega) (by omega) dX0_sumOf_54 ?_
        refine z_isub (pc := 57) hx hb dX0_sumOf_57 ?_
        refine lv_istore (lv' := [(7, .int (zi (((min (E : Int) (E : Int)) - (max (fr (u)) (B : Int)))))), (6, .int (zi ((E : Int)))), (0, .ref (ad 2)), (1, .int (zi ((B : Int)))), (2, .int (zi ((E : Int)))), (3, .long (zj (z1))), (5, .int (zi (z2)))]) (pc := 58) hx hb dX0_sumOf_58 hl (by decide) rfl (fun ls hl => ?_)
        refine lv_lload_n (pc := 60) hx hb dX0_sumOf_60 rfl (lv_at hl 5 rfl) ?_
        refine lv_aload_n (pc := 61) hx hb dX0_sumOf_61 rfl (lv_at hl 2 rfl) ?_
        refine va_get (D := D) (cl := vwCl) (ci := 0) (v := .ref (ad 10)) (C := RX0) (T := TX0) (N := 3) (pc := 62) hx hb hT inT0 hown hK.1 hP 2 rfl rfl 1 (by decide) (hT _ tw_46) (fun _ h9 => h9) rfl dX0_sumOf_62 ?_
        refine lv_iload (pc := 65) hx hb dX0_sumOf_65 (lv_at hl 6 rfl) ?_
        refine z_lald (pc := 67) hx hb hK hP 10 (u) (f := lv) rfl (by omega) (by omega) (by omega) dX0_sumOf_67 ?_
        have r_5 := hlv (u) (by omega)
        refine z_iconst (pc := 68) hx hb dX0_sumOf_68 ?_
        refine lv_iload (pc := 69) hx hb dX0_sumOf_69 (lv_at hl 0 rfl) ?_
        refine z_mmax (pc := 71) hx hb (hml.trans hl.1.symm) hown (hT _ tw_223) (hT _ tw_224) (hT _ tw_6) (hT _ tw_225) (Nat.le_of_ble_eq_true rfl) (Nat.le_of_ble_eq_true rfl) (Nat.le_of_ble_eq_true rfl) (Nat.le_of_ble_eq_true rfl) (by omega) (by omega) dX0_sumOf_71 ?_
        refine z_i2l (pc := 74) hx hb (by omega) dX0_sumOf_74 ?_
        refine z_lmul (pc := 75) hx hb dX0_sumOf_75 ?_
        refine z_ladd (pc := 76) hx hb dX0_sumOf_76 ?_
        refine lv_lstore_n (lv' := [(3, .long (zj ((z1 + ((lv (u)) * (max 0 ((min (E : Int) (E : Int)) - (max (fr (u)) (B : Int))))))))), (7, .int (zi (((min (E : Int) (E : Int)) - (max (fr (u)) (B : Int)))))), (6, .int (zi ((E : Int)))), (0, .ref (ad 2)), (1, .int (zi ((B : Int)))), (2, .int (zi ((E : Int)))), (5, .int (zi (z2)))]) (pc := 77) hx hb dX0_sumOf_77 rfl hl (by decide) rfl (fun ls hl => ?_)
        refine lv_iinc (v := zi (z2 + 1)) (lv' := [(5, .int (zi ((z2 + 1)))), (3, .long (zj ((z1 + ((lv (u)) * (max 0 ((min (E : Int) (E : Int)) - (max (fr (u)) (B : Int))))))))), (7, .int (zi (((min (E : Int) (E : Int)) - (max (fr (u)) (B : Int)))))), (6, .int (zi ((E : Int)))), (0, .ref (ad 2)), (1, .int (zi ((B : Int)))), (2, .int (zi ((E : Int))))]) (pc := 78) hx hb dX0_sumOf_78 hl (k := 6) rfl (zi_add _ _) (by decide) rfl (fun ls hl => ?_)
        refine lv_goto (tgt := 5) (pc := 81) hx hb dX0_sumOf_81 (by decide) ?_
        exact ih  _ _ (by rw [sum_piece hE (show u ≤ i by omega) (by omega) (by omega), e1, nxt, if_pos (by omega), hlu.1, hfu.1]; congr 2; (have hn1 : nxt φ i (u + 1) = 501 := by (rw [nxt, if_neg (by omega)])); omega) (by omega) ls (lv_sub hl [4, 5, 6, 1, 0] rfl)
      · have hlu := hlv u (by omega)
        have hfu := hfr u (by omega)
        refine lv_aload_n (pc := 25) hx hb dX0_sumOf_25 rfl (lv_at hl 0 rfl) ?_
        refine va_get (D := D) (cl := vwCl) (ci := 0) (v := .ref (ad 9)) (C := RX0) (T := TX0) (N := 3) (pc := 26) hx hb hT inT0 hown hK.1 hP 2 rfl rfl 0 (by decide) (hT _ tw_45) (fun _ h9 => h9) rfl dX0_sumOf_26 ?_
        refine lv_iload (pc := 29) hx hb dX0_sumOf_29 (lv_at hl 4 rfl) ?_
        refine z_iconst (pc := 31) hx hb dX0_sumOf_31 ?_
        refine z_iadd (pc := 32) hx hb dX0_sumOf_32 ?_
        refine z_iald (pc := 33) hx hb hK hP 9 ((u + 1)) (f := fr) rfl (by omega) (by omega) (by omega) dX0_sumOf_33 ?_
        have r_6 := hfr ((u + 1)) (by omega)
        refine lv_goto (tgt := 38) (pc := 34) hx hb dX0_sumOf_34 (by decide) ?_
        refine lv_istore (lv' := [(6, .int (zi ((fr ((u + 1)))))), (0, .ref (ad 2)), (1, .int (zi ((B : Int)))), (2, .int (zi ((E : Int)))), (3, .long (zj (z1))), (5, .int (zi (z2)))]) (pc := 38) hx hb dX0_sumOf_38 hl (by decide) rfl (fun ls hl => ?_)
        refine lv_iload (pc := 40) hx hb dX0_sumOf_40 (lv_at hl 0 rfl) ?_
        refine lv_iload_n (pc := 42) hx hb dX0_sumOf_42 rfl (lv_at hl 3 rfl) ?_
        refine z_mmin (pc := 43) hx hb (hml.trans hl.1.symm) hown (hT _ tw_220) (hT _ tw_221) (hT _ tw_6) (hT _ tw_222) (Nat.le_of_ble_eq_true rfl) (Nat.le_of_ble_eq_true rfl) (Nat.le_of_ble_eq_true rfl) (Nat.le_of_ble_eq_true rfl) (by omega) (by omega) dX0_sumOf_43 ?_
        refine lv_aload_n (pc := 46) hx hb dX0_sumOf_46 rfl (lv_at hl 1 rfl) ?_
        refine va_get (D := D) (cl := vwCl) (ci := 0) (v := .ref (ad 9)) (C := RX0) (T := TX0) (N := 3) (pc := 47) hx hb hT inT0 hown hK.1 hP 2 rfl rfl 0 (by decide) (hT _ tw_45) (fun _ h9 => h9) rfl dX0_sumOf_47 ?_
        refine lv_iload (pc := 50) hx hb dX0_sumOf_50 (lv_at hl 5 rfl) ?_
        refine z_iald (pc := 52) hx hb hK hP 9 (u) (f := fr) rfl (by omega) (by omega) (by omega) dX0_sumOf_52 ?_
        have r_7 := hfr (u) (by omega)
        refine lv_iload_n (pc := 53) hx hb dX0_sumOf_53 rfl (lv_at hl 2 rfl) ?_
        refine z_mmax (pc := 54) hx hb (hml.trans hl.1.symm) hown (hT _ tw_223) (hT _ tw_224) (hT _ tw_6) (hT _ tw_225) (Nat.le_of_ble_eq_true rfl) (Nat.le_of_ble_eq_true rfl) (Nat.le_of_ble_eq_true rfl) (Nat.le_of_ble_eq_true rfl) (by omega) (by omega) dX0_sumOf_54 ?_
        refine z_isub (pc := 57) hx hb dX0_sumOf_57 ?_
        refine lv_istore (lv' := [(7, .int (zi (((min (fr ((u + 1))) (E : Int)) - (max (fr (u)) (B : Int)))))), (6, .int (zi ((fr ((u + 1)))))), (0, .ref (ad 2)), (1, .int (zi ((B : Int)))), (2, .int (zi ((E : Int)))), (3, .long (zj (z1))), (5, .int (zi (z2)))]) (pc := 58) hx hb dX0_sumOf_58 hl (by decide) rfl (fun ls hl => ?_)
        refine lv_lload_n (pc := 60) hx hb dX0_sumOf_60 rfl (lv_at hl 5 rfl) ?_
        refine lv_aload_n (pc := 61) hx hb dX0_sumOf_61 rfl (lv_at hl 2 rfl) ?_
        refine va_get (D := D) (cl := vwCl) (ci := 0) (v := .ref (ad 10)) (C := RX0) (T := TX0) (N := 3) (pc := 62) hx hb hT inT0 hown hK.1 hP 2 rfl rfl 1 (by decide) (hT _ tw_46) (fun _ h9 => h9) rfl dX0_sumOf_62 ?_
        refine lv_iload (pc := 65) hx hb dX0_sumOf_65 (lv_at hl 6 rfl) ?_
        refine z_lald (pc := 67) hx hb hK hP 10 (u) (f := lv) rfl (by omega) (by omega) (by omega) dX0_sumOf_67 ?_
        have r_8 := hlv (u) (by omega)
        refine z_iconst (pc := 68) hx hb dX0_sumOf_68 ?_
        refine lv_iload (pc := 69) hx hb dX0_sumOf_69 (lv_at hl 0 rfl) ?_
        refine z_mmax (pc := 71) hx hb (hml.trans hl.1.symm) hown (hT _ tw_223) (hT _ tw_224) (hT _ tw_6) (hT _ tw_225) (Nat.le_of_ble_eq_true rfl) (Nat.le_of_ble_eq_true rfl) (Nat.le_of_ble_eq_true rfl) (Nat.le_of_ble_eq_true rfl) (by omega) (by omega) dX0_sumOf_71 ?_
        refine z_i2l (pc := 74) hx hb (by omega) dX0_sumOf_74 ?_
        refine z_lmul (pc := 75) hx hb dX0_sumOf_75 ?_
        refine z_ladd (pc := 76) hx hb dX0_sumOf_76 ?_
        refine lv_lstore_n (lv' := [(3, .long (zj ((z1 + ((lv (u)) * (max 0 ((min (fr ((u + 1))) (E : Int)) - (max (fr (u)) (B : Int))))))))), (7, .int (zi (((min (fr ((u + 1))) (E : Int)) - (max (fr (u)) (B : Int)))))), (6, .int (zi ((fr ((u + 1)))))), (0, .ref (ad 2)), (1, .int (zi ((B : Int)))), (2, .int (zi ((E : Int)))), (5, .int (zi (z2)))]) (pc := 77) hx hb dX0_sumOf_77 rfl hl (by decide) rfl (fun ls hl => ?_)
        refine lv_iinc (v := zi (z2 + 1)) (lv' := [(5, .int (zi ((z2 + 1)))), (3, .long (zj ((z1 + ((lv (u)) * (max 0 ((min (fr ((u + 1))) (E : Int)) - (max (fr (u)) (B : Int))))))))), (7, .int (zi (((min (fr ((u + 1))) (E : Int)) - (max (fr (u)) (B : Int)))))), (6, .int (zi ((fr ((u + 1)))))), (0, .ref (ad 2)), (1, .int (zi ((B : Int)))), (2, .int (zi ((E : Int))))]) (pc := 78) hx hb dX0_sumOf_78 hl (k := 6) rfl (zi_add _ _) (by decide) rfl (fun ls hl => ?_)
        refine lv_goto (tgt := 5) (pc := 81) hx hb dX0_sumOf_81 (by decide) ?_
        exact ih  _ _ (by rw [sum_piece hE (show u ≤ i by omega) (by omega) (by omega), e1, nxt, if_pos (by omega), hlu.1, hfu.1]; congr 2; (have hn1 : nxt φ i (u + 1) = φ (u + 1) := by (rw [nxt, if_pos (by omega)])); have hf2 := (hfr (u + 1) (by omega)).1; omega) (by omega) ls (lv_sub hl [4, 5, 6, 1, 0] rfl)
  refine z_lconst0 (pc := 0) hx hb dX0_sumOf_0 ?_
  refine lv_lstore_n (lv' := [(3, .long (zj (0))), (0, .ref (ad 2)), (1, .int (zi ((B : Int)))), (2, .int (zi ((E : Int))))]) (pc := 1) hx hb dX0_sumOf_1 rfl hl (by decide) rfl (fun ls hl => ?_)
  refine z_iconst (pc := 2) hx hb dX0_sumOf_2 ?_
  refine lv_istore (lv' := [(5, .int (zi (0))), (3, .long (zj (0))), (0, .ref (ad 2)), (1, .int (zi ((B : Int)))), (2, .int (zi ((E : Int))))]) (pc := 3) hx hb dX0_sumOf_3 hl (by decide) rfl (fun ls hl => ?_)
  exact loop 0 (by omega) _ _ (by rw [nxt, if_pos (by omega), hφ0, show min 0 E - B = 0 by omega]; rfl) (by rfl) ls (lv_sub hl [2, 3, 4, 1, 0] rfl)
