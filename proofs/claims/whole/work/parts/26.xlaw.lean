theorem LW_rng {H : Nat → Int} (hH : ∀ j : Nat, -1 ≤ H j ∧ H j ≤ 500) {b d : Int} (hb : 1 ≤ b ∧ 0 ≤ d ∧ b + 9 * d ≤ 100000) : ∀ m : Nat, m ≤ 200 → 0 ≤ (LW H b d m).2.2 ∧ (LW H b d m).2.2 ≤ 402004
  | 0, _ => by
    have h := msZ_rng hH (b := b) (s_ := 1) (by omega) (by omega) 4
    simp only [LW]; omega
  | m + 1, hm => by
    have ih := LW_rng hH hb m (by omega)
    simp only [LW]
    have h1 : 0 ≤ ((m / 20 : Nat) : Int) * d ∧ ((m / 20 : Nat) : Int) * d ≤ 9 * d := ⟨Int.mul_nonneg (by omega) (by omega), Int.mul_le_mul_of_nonneg_right (by omega) (by omega)⟩
    have h := msZ_rng hH (b := b + ((m / 20 : Nat) : Int) * d) (s_ := ((m % 20 : Nat) : Int) + 1) (by omega) (by omega) 4
    split
    · simp only; omega
    · exact ih

set_option maxHeartbeats 4000000 in
set_option maxRecDepth 100000 in
theorem c_X3_law (D : va_G) (cI cJ : ClassId) (l : Launch) (ad : Nat → Nat) (n : Int) (st hr ca : Nat → Int) (pcs : Int) (fr lv : Nat → Int) (k : Int) (ts th sp hv : Nat → Int) (pr hc : Int) (hU : VU n st hr ca) (b : Int) (r_b : -2147483648 ≤ b ∧ b ≤ 2147483647) (d : Int) (r_d : -2147483648 ≤ d ∧ d ≤ 2147483647) (w : Int) (r_w : -2147483648 ≤ w ∧ w ≤ 2147483647) : WR D cI cJ l yX3_law cX3_law 10 (some .int) 5 118 [.ref (ad 0), .int (zi (b)), .int (zi (d)), .int (zi (w))] (wX ad cI cJ n st hr ca pcs fr lv k ts th sp hv pr hc) (fun v' ws' => v' = .int (zi (lawV n st hr ca b d w)) ∧ ∃ (pcs' : Int) (fr' lv' hv' : Nat → Int), ws' = (wX ad cI cJ n st hr ca pcs' fr' lv' k ts th sp hv' pr hc)) := by
  refine WR.of (by decide) (Nat.le_of_ble_eq_true rfl) ?_
  intro p e s m args below meth c hx hb hrt hml hown hT hlk hK hP hD hS ls hl
  replace hl : lv_has ls 10 [(0, .ref (ad 0)), (1, .int (zi (b))), (2, .int (zi (d))), (3, .int (zi (w)))] := hl
  refine lv_iload_n (pc := 0) hx hb dX3_law_0 rfl (lv_at hl 1 rfl) ?_
  refine z_iconst (pc := 1) hx hb dX3_law_1 ?_
  refine z_ldc (pc := 2) hx hb (100000) hown (hT _ tw_253) (by decide) dX3_law_2 ?_
  refine rd_S (pc := 4) hx hb hml hown hT hK (c_X3_isWithin D cI cJ l (b) (by omega) (1) (by omega) (100000) (by omega)) ca_X3_isWithin tw_107 va_Pnil ⟨Nat.le_of_ble_eq_true rfl, Nat.le_of_ble_eq_true rfl⟩ rfl hl.1 (As := [.int (zi (b)), .int (zi (1)), .int (zi (100000))]) (rest := []) rfl (Nat.le_of_ble_eq_true rfl) ⟨Nat.le_of_ble_eq_true rfl, Nat.le_of_ble_eq_true rfl⟩ dX3_law_4 ?_
  refine z_ifB_eq (tgt := 41) (pc := 7) hx hb dX3_law_7 (by decide) (fun c_1 => ?_) (fun c_1 => ?_)
  · refine z_sipush (pc := 41) hx hb dX3_law_41 (by decide) ?_
    exact wr_iret hx hb hrt hlk dX3_law_44 hP hS (⟨by rw [lawV, if_neg (by omega)], pcs, fr, lv, hv, rfl⟩)
  · refine lv_iload_n (pc := 10) hx hb dX3_law_10 rfl (lv_at hl 2 rfl) ?_
    refine z_iconst (pc := 11) hx hb dX3_law_11 ?_
    refine z_sipush (pc := 12) hx hb dX3_law_12 (by decide) ?_
    refine rd_S (pc := 15) hx hb hml hown hT hK (c_X3_isWithin D cI cJ l (d) (by omega) (0) (by omega) (1000) (by omega)) ca_X3_isWithin tw_107 va_Pnil ⟨Nat.le_of_ble_eq_true rfl, Nat.le_of_ble_eq_true rfl⟩ rfl hl.1 (As := [.int (zi (d)), .int (zi (0)), .int (zi (1000))]) (rest := []) rfl (Nat.le_of_ble_eq_true rfl) ⟨Nat.le_of_ble_eq_true rfl, Nat.le_of_ble_eq_true rfl⟩ dX3_law_15 ?_
    refine z_ifB_eq (tgt := 41) (pc := 18) hx hb dX3_law_18 (by decide) (fun c_2 => ?_) (fun c_2 => ?_)
    · refine z_sipush (pc := 41) hx hb dX3_law_41 (by decide) ?_
      exact wr_iret hx hb hrt hlk dX3_law_44 hP hS (⟨by rw [lawV, if_neg (by omega)], pcs, fr, lv, hv, rfl⟩)
    · refine lv_iload_n (pc := 21) hx hb dX3_law_21 rfl (lv_at hl 1 rfl) ?_
      refine z_bipush (pc := 22) hx hb dX3_law_22 (by decide) ?_
      refine lv_iload_n (pc := 24) hx hb dX3_law_24 rfl (lv_at hl 2 rfl) ?_
      refine z_imul (pc := 25) hx hb dX3_law_25 ?_
      refine z_iadd (pc := 26) hx hb dX3_law_26 ?_
      refine z_ldc (pc := 27) hx hb (100000) hown (hT _ tw_253) (by decide) dX3_law_27 ?_
      refine z_icmp_gt (tgt := 41) (pc := 29) hx hb dX3_law_29 (by decide) (by omega) (by omega) (fun c_3 => ?_) (fun c_3 => ?_)
      · refine z_sipush (pc := 41) hx hb dX3_law_41 (by decide) ?_
        exact wr_iret hx hb hrt hlk dX3_law_44 hP hS (⟨by rw [lawV, if_neg (by omega)], pcs, fr, lv, hv, rfl⟩)
      · refine lv_iload_n (pc := 32) hx hb dX3_law_32 rfl (lv_at hl 3 rfl) ?_
        refine z_iconst (pc := 33) hx hb dX3_law_33 ?_
        refine z_iconst (pc := 34) hx hb dX3_law_34 ?_
        refine rd_S (pc := 35) hx hb hml hown hT hK (c_X3_isWithin D cI cJ l (w) (by omega) (0) (by omega) (2) (by omega)) ca_X3_isWithin tw_107 va_Pnil ⟨Nat.le_of_ble_eq_true rfl, Nat.le_of_ble_eq_true rfl⟩ rfl hl.1 (As := [.int (zi (w)), .int (zi (0)), .int (zi (2))]) (rest := []) rfl (Nat.le_of_ble_eq_true rfl) ⟨Nat.le_of_ble_eq_true rfl, Nat.le_of_ble_eq_true rfl⟩ dX3_law_35 ?_
        refine z_ifB_ne (tgt := 45) (pc := 38) hx hb dX3_law_38 (by decide) (fun c_4 => ?_) (fun c_4 => ?_)
        · refine lv_aload_n (pc := 45) hx hb dX3_law_45 rfl (lv_at hl 0 rfl) ?_
          refine wr_V (pc := 46) hx hb hml hown hT hK (c_X3_findHalves D cI cJ l ad n st hr ca pcs fr lv k ts th sp hv pr hc hU) ca_X3_findHalves tw_264 hP hD hS (fun q h => inW_same (by rfl) h) 0 3 rfl rfl rfl ⟨Nat.le_of_ble_eq_true rfl, Nat.le_of_ble_eq_true rfl⟩ rfl hl.1 (As := []) (rest := []) rfl (Nat.le_of_ble_eq_true rfl) ⟨Nat.le_of_ble_eq_true rfl, Nat.le_of_ble_eq_true rfl⟩ dX3_law_46 (fun v_ ws_ H locs hΦ hP hz_ hk_ hS => ?_)
          obtain ⟨rfl, pcs_5, fr_5, lv_5, hv_5, hH_5, rfl⟩ := hΦ
          replace hD : va_D (inW (wX ad cI cJ n st hr ca pcs fr lv k ts th sp hv pr hc)) (wX ad cI cJ n st hr ca pcs_5 fr_5 lv_5 k ts th sp hv_5 pr hc) := hD.same rfl
          refine z_ifB_ne (tgt := 56) (pc := 49) hx hb dX3_law_49 (by decide) (fun c_6 => ?_) (fun c_6 => ?_)
          · have hok : ((1 ≤ b ∧ b ≤ 100000) ∧ (0 ≤ d ∧ d ≤ 1000)) ∧ b + 9 * d ≤ 100000 ∧ (0 ≤ w ∧ w ≤ 2) := by omega
            have inner : ∀ (z7 : Int) (u : Nat), z7 = (u : Int) → u < 10 → (∀ z4 z5 z6 : Int, LW (hvF n st hr ca) b d (20 * (u + 1)) = (z4, z5, z6) → ∀ ls : Array Slot, lv_has ls 10 [(0, .ref (ad 0)), (1, .int (zi (b))), (2, .int (zi (d))), (3, .int (zi (w))), (4, .int (zi (z4))), (5, .int (zi (z5))), (6, .int (zi (z6))), (7, .int (zi (z7)))] → W p l e (RM 5 118) s m args below meth c H locs 0 0 (MQ below (QW D (wX ad cI cJ n st hr ca pcs fr lv k ts th sp hv pr hc) (fun v' ws' => v' = .int (zi (lawV n st hr ca b d w)) ∧ ∃ (pcs' : Int) (fr' lv' hv' : Nat → Int), ws' = (wX ad cI cJ n st hr ca pcs' fr' lv' k ts th sp hv' pr hc))) args s 0 0 (inW (wX ad cI cJ n st hr ca pcs fr lv k ts th sp hv pr hc))) (F0 m 133 ls [])) → ∀ v : Nat, v ≤ 20 → ∀ (z4 z5 z6 z8 : Int), (LW (hvF n st hr ca) b d (20 * u + v) = (z4, z5, z6)) → (z8 = (v : Int) + 1) → ∀ ls : Array Slot, lv_has ls 10 [(0, .ref (ad 0)), (1, .int (zi (b))), (2, .int (zi (d))), (3, .int (zi (w))), (4, .int (zi (z4))), (5, .int (zi (z5))), (6, .int (zi (z6))), (7, .int (zi (z7))), (8, .int (zi (z8)))] → W p l e (RM 5 118) s m args below meth c H locs 0 0 (MQ below (QW D (wX ad cI cJ n st hr ca pcs fr lv k ts th sp hv pr hc) (fun v' ws' => v' = .int (zi (lawV n st hr ca b d w)) ∧ ∃ (pcs' : Int) (fr' lv' hv' : Nat → Int), ws' = (wX ad cI cJ n st hr ca pcs' fr' lv' k ts th sp hv' pr hc))) args s 0 0 (inW (wX ad cI cJ n st hr ca pcs fr lv k ts th sp hv pr hc))) (F0 m 83 ls []) := by
              intro z7 u e7 hu hex
              refine lp_up (fun v => ∀ (z4 z5 z6 z8 : Int), (LW (hvF n st hr ca) b d (20 * u + v) = (z4, z5, z6)) → (z8 = (v : Int) + 1) → ∀ ls : Array Slot, lv_has ls 10 [(0, .ref (ad 0)), (1, .int (zi (b))), (2, .int (zi (d))), (3, .int (zi (w))), (4, .int (zi (z4))), (5, .int (zi (z5))), (6, .int (zi (z6))), (7, .int (zi (z7))), (8, .int (zi (z8)))] → W p l e (RM 5 118) s m args below meth c H locs 0 0 (MQ below (QW D (wX ad cI cJ n st hr ca pcs fr lv k ts th sp hv pr hc) (fun v' ws' => v' = .int (zi (lawV n st hr ca b d w)) ∧ ∃ (pcs' : Int) (fr' lv' hv' : Nat → Int), ws' = (wX ad cI cJ n st hr ca pcs' fr' lv' k ts th sp hv' pr hc))) args s 0 0 (inW (wX ad cI cJ n st hr ca pcs fr lv k ts th sp hv pr hc))) (F0 m 83 ls [])) (20) ?_ ?_
              · intro z4 z5 z6 z8 e1 e8 ls hl
                refine lv_iload (pc := 83) hx hb dX3_law_83 (lv_at hl 8 rfl) ?_
                refine z_bipush (pc := 85) hx hb dX3_law_85 (by decide) ?_
                refine z_icmp_gt (tgt := 133) (pc := 87) hx hb dX3_law_87 (by decide) (by omega) (by omega) (fun c_7 => ?_) (fun c_7 => absurd c_7 (by omega))
                exact hex _ _ _ (by rw [show 20 * (u + 1) = 20 * u + 20 by omega]; exact e1) ls (lv_sub hl [0, 1, 2, 3, 4, 5, 6, 7] rfl)
              · intro v hv ih z4 z5 z6 z8 e1 e8 ls hl
                refine lv_iload (pc := 83) hx hb dX3_law_83 (lv_at hl 8 rfl) ?_
                refine z_bipush (pc := 85) hx hb dX3_law_85 (by decide) ?_
                refine z_icmp_gt (tgt := 133) (pc := 87) hx hb dX3_law_87 (by decide) (by omega) (by omega) (fun c_8 => absurd c_8 (by omega)) (fun c_8 => ?_)
                have hzd : 0 ≤ z7 * d ∧ z7 * d ≤ 9 * d := ⟨Int.mul_nonneg (by omega) (by omega), Int.mul_le_mul_of_nonneg_right (by omega) (by omega)⟩
                have hmr := msZ_rng (hvF_rng n st hr ca) (b := b + z7 * d) (s_ := z8) (by omega) (by omega) 4
                have hlr := LW_rng (hvF_rng n st hr ca) (b := b) (d := d) (by omega) (20 * u + v) (by omega)
                rw [e1] at hlr
                simp only at hlr
                refine lv_aload_n (pc := 90) hx hb dX3_law_90 rfl (lv_at hl 0 rfl) ?_
                refine lv_iload_n (pc := 91) hx hb dX3_law_91 rfl (lv_at hl 1 rfl) ?_
                refine lv_iload (pc := 92) hx hb dX3_law_92 (lv_at hl 7 rfl) ?_
                refine lv_iload_n (pc := 94) hx hb dX3_law_94 rfl (lv_at hl 2 rfl) ?_
                refine z_imul (pc := 95) hx hb dX3_law_95 ?_
                refine z_iadd (pc := 96) hx hb dX3_law_96 ?_
                refine lv_iload (pc := 97) hx hb dX3_law_97 (lv_at hl 8 rfl) ?_
                refine rd_V (pc := 99) hx hb hml hown hT hK (c_X3_missOfHalves D cI cJ l ad n st hr ca pcs_5 fr_5 lv_5 k ts th sp hv_5 pr hc (hvF n st hr ca) (hvF_rng n st hr ca) hH_5 ((b + (z7 * d))) (z8) (by omega)) ca_X3_missOfHalves tw_268 hP 0 3 rfl rfl rfl ⟨Nat.le_of_ble_eq_true rfl, Nat.le_of_ble_eq_true rfl⟩ rfl hl.1 (As := [.int (zi ((b + (z7 * d)))), .int (zi (z8))]) (rest := []) rfl (Nat.le_of_ble_eq_true rfl) ⟨Nat.le_of_ble_eq_true rfl, Nat.le_of_ble_eq_true rfl⟩ dX3_law_99 ?_
                refine lv_istore (lv' := [(9, .int (zi ((msZ (hvF n st hr ca) ((b + (z7 * d))) (z8) 4)))), (0, .ref (ad 0)), (1, .int (zi (b))), (2, .int (zi (d))), (3, .int (zi (w))), (4, .int (zi (z4))), (5, .int (zi (z5))), (6, .int (zi (z6))), (7, .int (zi (z7))), (8, .int (zi (z8)))]) (pc := 102) hx hb dX3_law_102 hl (by decide) rfl (fun ls hl => ?_)
                refine lv_iload (pc := 104) hx hb dX3_law_104 (lv_at hl 0 rfl) ?_
                refine lv_iload (pc := 106) hx hb dX3_law_106 (lv_at hl 7 rfl) ?_
                refine z_icmp_ge (tgt := 127) (pc := 108) hx hb dX3_law_108 (by decide) (by omega) (by omega) (fun c_9 => ?_) (fun c_9 => ?_)
                · refine lv_iinc (v := zi (z8 + 1)) (lv' := [(8, .int (zi ((z8 + 1)))), (9, .int (zi ((msZ (hvF n st hr ca) ((b + (z7 * d))) (z8) 4)))), (0, .ref (ad 0)), (1, .int (zi (b))), (2, .int (zi (d))), (3, .int (zi (w))), (4, .int (zi (z4))), (5, .int (zi (z5))), (6, .int (zi (z6))), (7, .int (zi (z7)))]) (pc := 127) hx hb dX3_law_127 hl (k := 9) rfl (zi_add _ _) (by decide) rfl (fun ls hl => ?_)
                  refine lv_goto (tgt := 83) (pc := 130) hx hb dX3_law_130 (by decide) ?_
                  exact ih  _ _ _ _ (by rw [← Nat.add_assoc, LW_s _ _ _ hv, e1, if_neg (by show ¬ msZ _ _ _ _ < z6; rw [← e7, ← e8]; omega)]) (by omega) ls (lv_sub hl [2, 3, 4, 5, 6, 7, 8, 9, 0] rfl)
                · refine lv_iload_n (pc := 111) hx hb dX3_law_111 rfl (lv_at hl 2 rfl) ?_
                  refine lv_iload (pc := 112) hx hb dX3_law_112 (lv_at hl 8 rfl) ?_
                  refine lv_iload_n (pc := 114) hx hb dX3_law_114 rfl (lv_at hl 3 rfl) ?_
                  refine z_imul (pc := 115) hx hb dX3_law_115 ?_
                  refine z_iadd (pc := 116) hx hb dX3_law_116 ?_
                  refine lv_istore (lv' := [(4, .int (zi ((b + (z7 * d))))), (9, .int (zi ((msZ (hvF n st hr ca) ((b + (z7 * d))) (z8) 4)))), (0, .ref (ad 0)), (1, .int (zi (b))), (2, .int (zi (d))), (3, .int (zi (w))), (5, .int (zi (z5))), (6, .int (zi (z6))), (7, .int (zi (z7))), (8, .int (zi (z8)))]) (pc := 117) hx hb dX3_law_117 hl (by decide) rfl (fun ls hl => ?_)
                  refine lv_iload (pc := 119) hx hb dX3_law_119 (lv_at hl 9 rfl) ?_
                  refine lv_istore (lv' := [(5, .int (zi (z8))), (4, .int (zi ((b + (z7 * d))))), (9, .int (zi ((msZ (hvF n st hr ca) ((b + (z7 * d))) (z8) 4)))), (0, .ref (ad 0)), (1, .int (zi (b))), (2, .int (zi (d))), (3, .int (zi (w))), (6, .int (zi (z6))), (7, .int (zi (z7))), (8, .int (zi (z8)))]) (pc := 121) hx hb dX3_law_121 hl (by decide) rfl (fun ls hl => ?_)
                  refine lv_iload (pc := 123) hx hb dX3_law_123 (lv_at hl 2 rfl) ?_
                  refine lv_istore (lv' := [(6, .int (zi ((msZ (hvF n st hr ca) ((b + (z7 * d))) (z8) 4)))), (5, .int (zi (z8))), (4, .int (zi ((b + (z7 * d))))), (9, .int (zi ((msZ (hvF n st hr ca) ((b + (z7 * d))) (z8) 4)))), (0, .ref (ad 0)), (1, .int (zi (b))), (2, .int (zi (d))), (3, .int (zi (w))), (7, .int (zi (z7))), (8, .int (zi (z8)))]) (pc := 125) hx hb dX3_law_125 hl (by decide) rfl (fun ls hl => ?_)
                  refine lv_iinc (v := zi (z8 + 1)) (lv' := [(8, .int (zi ((z8 + 1)))), (6, .int (zi ((msZ (hvF n st hr ca) ((b + (z7 * d))) (z8) 4)))), (5, .int (zi (z8))), (4, .int (zi ((b + (z7 * d))))), (9, .int (zi ((msZ (hvF n st hr ca) ((b + (z7 * d))) (z8) 4)))), (0, .ref (ad 0)), (1, .int (zi (b))), (2, .int (zi (d))), (3, .int (zi (w))), (7, .int (zi (z7)))]) (pc := 127) hx hb dX3_law_127 hl (k := 9) rfl (zi_add _ _) (by decide) rfl (fun ls hl => ?_)
                  refine lv_goto (tgt := 83) (pc := 130) hx hb dX3_law_130 (by decide) ?_
                  exact ih  _ _ _ _ (by rw [← Nat.add_assoc, LW_s _ _ _ hv, e1, if_pos (by show msZ _ _ _ _ < z6; rw [← e7, ← e8]; omega), e7, e8]) (by omega) ls (lv_sub hl [5, 6, 7, 8, 3, 2, 1, 9, 0] rfl)
            have outer : ∀ u : Nat, u ≤ 10 → ∀ (z4 z5 z6 z7 : Int), (LW (hvF n st hr ca) b d (20 * u) = (z4, z5, z6)) → (z7 = (u : Int)) → ∀ ls : Array Slot, lv_has ls 10 [(0, .ref (ad 0)), (1, .int (zi (b))), (2, .int (zi (d))), (3, .int (zi (w))), (4, .int (zi (z4))), (5, .int (zi (z5))), (6, .int (zi (z6))), (7, .int (zi (z7)))] → W p l e (RM 5 118) s m args below meth c H locs 0 0 (MQ below (QW D (wX ad cI cJ n st hr ca pcs fr lv k ts th sp hv pr hc) (fun v' ws' => v' = .int (zi (lawV n st hr ca b d w)) ∧ ∃ (pcs' : Int) (fr' lv' hv' : Nat → Int), ws' = (wX ad cI cJ n st hr ca pcs' fr' lv' k ts th sp hv' pr hc))) args s 0 0 (inW (wX ad cI cJ n st hr ca pcs fr lv k ts th sp hv pr hc))) (F0 m 73 ls []) := by
              refine lp_up (fun u => ∀ (z4 z5 z6 z7 : Int), (LW (hvF n st hr ca) b d (20 * u) = (z4, z5, z6)) → (z7 = (u : Int)) → ∀ ls : Array Slot, lv_has ls 10 [(0, .ref (ad 0)), (1, .int (zi (b))), (2, .int (zi (d))), (3, .int (zi (w))), (4, .int (zi (z4))), (5, .int (zi (z5))), (6, .int (zi (z6))), (7, .int (zi (z7)))] → W p l e (RM 5 118) s m args below meth c H locs 0 0 (MQ below (QW D (wX ad cI cJ n st hr ca pcs fr lv k ts th sp hv pr hc) (fun v' ws' => v' = .int (zi (lawV n st hr ca b d w)) ∧ ∃ (pcs' : Int) (fr' lv' hv' : Nat → Int), ws' = (wX ad cI cJ n st hr ca pcs' fr' lv' k ts th sp hv' pr hc))) args s 0 0 (inW (wX ad cI cJ n st hr ca pcs fr lv k ts th sp hv pr hc))) (F0 m 73 ls [])) (10) ?_ ?_
              · intro z4 z5 z6 z7 e1 e7 ls hl
                refine lv_iload (pc := 73) hx hb dX3_law_73 (lv_at hl 7 rfl) ?_
                refine z_bipush (pc := 75) hx hb dX3_law_75 (by decide) ?_
                refine z_icmp_ge (tgt := 139) (pc := 77) hx hb dX3_law_77 (by decide) (by omega) (by omega) (fun c_10 => ?_) (fun c_10 => absurd c_10 (by omega))
                refine lv_iload_n (pc := 139) hx hb dX3_law_139 rfl (lv_at hl 3 rfl) ?_
                refine z_if_ne (tgt := 148) (pc := 140) hx hb dX3_law_140 (by decide) (by omega) (fun c_11 => ?_) (fun c_11 => ?_)
                · refine lv_iload_n (pc := 148) hx hb dX3_law_148 rfl (lv_at hl 3 rfl) ?_
                  refine z_iconst (pc := 149) hx hb dX3_law_149 ?_
                  refine z_icmp_ne (tgt := 158) (pc := 150) hx hb dX3_law_150 (by decide) (by omega) (by omega) (fun c_12 => ?_) (fun c_12 => ?_)
                  · refine lv_iload (pc := 158) hx hb dX3_law_158 (lv_at hl 6 rfl) ?_
                    exact wr_iret hx hb hrt hlk dX3_law_160 hP hS (⟨by rw [lawV, if_pos hok, if_neg (by assumption), if_neg (by omega), if_neg (by omega), e1], _, _, _, _, rfl⟩)
                  · refine lv_iload (pc := 153) hx hb dX3_law_153 (lv_at hl 5 rfl) ?_
                    refine lv_goto (tgt := 160) (pc := 155) hx hb dX3_law_155 (by decide) ?_
                    exact wr_iret hx hb hrt hlk dX3_law_160 hP hS (⟨by rw [lawV, if_pos hok, if_neg (by assumption), if_neg (by omega), if_pos (by omega), e1], _, _, _, _, rfl⟩)
                · refine lv_iload (pc := 143) hx hb dX3_law_143 (lv_at hl 4 rfl) ?_
                  refine lv_goto (tgt := 160) (pc := 145) hx hb dX3_law_145 (by decide) ?_
                  exact wr_iret hx hb hrt hlk dX3_law_160 hP hS (⟨by rw [lawV, if_pos hok, if_neg (by assumption), if_pos (by omega), e1], _, _, _, _, rfl⟩)
              · intro u hu ih z4 z5 z6 z7 e1 e7 ls hl
                refine lv_iload (pc := 73) hx hb dX3_law_73 (lv_at hl 7 rfl) ?_
                refine z_bipush (pc := 75) hx hb dX3_law_75 (by decide) ?_
                refine z_icmp_ge (tgt := 139) (pc := 77) hx hb dX3_law_77 (by decide) (by omega) (by omega) (fun c_13 => absurd c_13 (by omega)) (fun c_13 => ?_)
                refine z_iconst (pc := 80) hx hb dX3_law_80 ?_
                refine lv_istore (lv' := [(8, .int (zi (1))), (0, .ref (ad 0)), (1, .int (zi (b))), (2, .int (zi (d))), (3, .int (zi (w))), (4, .int (zi (z4))), (5, .int (zi (z5))), (6, .int (zi (z6))), (7, .int (zi (z7)))]) (pc := 81) hx hb dX3_law_81 hl (by decide) rfl (fun ls hl => ?_)
                refine inner _ u e7 (by omega) ?_ 0 (by omega) _ _ _ _ e1 (by omega) ls (lv_sub hl [1, 2, 3, 4, 5, 6, 7, 8, 0] rfl)
                intro z4 z5 z6 hq9 ls hl
                refine lv_iinc (v := zi (z7 + 1)) (lv' := [(7, .int (zi ((z7 + 1)))), (0, .ref (ad 0)), (1, .int (zi (b))), (2, .int (zi (d))), (3, .int (zi (w))), (4, .int (zi (z4))), (5, .int (zi (z5))), (6, .int (zi (z6)))]) (pc := 133) hx hb dX3_law_133 hl (k := 7) rfl (zi_add _ _) (by decide) rfl (fun ls hl => ?_)
                refine lv_goto (tgt := 73) (pc := 136) hx hb dX3_law_136 (by decide) ?_
                exact ih  _ _ _ _ (hq9) (by omega) ls (lv_sub hl [1, 2, 3, 4, 5, 6, 7, 0] rfl)
            refine lv_iload_n (pc := 56) hx hb dX3_law_56 rfl (lv_at hl 1 rfl) ?_
            refine lv_istore (lv' := [(4, .int (zi (b))), (0, .ref (ad 0)), (1, .int (zi (b))), (2, .int (zi (d))), (3, .int (zi (w)))]) (pc := 57) hx hb dX3_law_57 hl (by decide) rfl (fun ls hl => ?_)
            refine z_iconst (pc := 59) hx hb dX3_law_59 ?_
            refine lv_istore (lv' := [(5, .int (zi (1))), (4, .int (zi (b))), (0, .ref (ad 0)), (1, .int (zi (b))), (2, .int (zi (d))), (3, .int (zi (w)))]) (pc := 60) hx hb dX3_law_60 hl (by decide) rfl (fun ls hl => ?_)
            refine lv_aload_n (pc := 62) hx hb dX3_law_62 rfl (lv_at hl 2 rfl) ?_
            refine lv_iload_n (pc := 63) hx hb dX3_law_63 rfl (lv_at hl 3 rfl) ?_
            refine z_iconst (pc := 64) hx hb dX3_law_64 ?_
            refine rd_V (pc := 65) hx hb hml hown hT hK (c_X3_missOfHalves D cI cJ l ad n st hr ca pcs_5 fr_5 lv_5 k ts th sp hv_5 pr hc (hvF n st hr ca) (hvF_rng n st hr ca) hH_5 (b) (1) (by omega)) ca_X3_missOfHalves tw_268 hP 0 3 rfl rfl rfl ⟨Nat.le_of_ble_eq_true rfl, Nat.le_of_ble_eq_true rfl⟩ rfl hl.1 (As := [.int (zi (b)), .int (zi (1))]) (rest := []) rfl (Nat.le_of_ble_eq_true rfl) ⟨Nat.le_of_ble_eq_true rfl, Nat.le_of_ble_eq_true rfl⟩ dX3_law_65 ?_
            refine lv_istore (lv' := [(6, .int (zi ((msZ (hvF n st hr ca) (b) (1) 4)))), (5, .int (zi (1))), (4, .int (zi (b))), (0, .ref (ad 0)), (1, .int (zi (b))), (2, .int (zi (d))), (3, .int (zi (w)))]) (pc := 68) hx hb dX3_law_68 hl (by decide) rfl (fun ls hl => ?_)
            refine z_iconst (pc := 70) hx hb dX3_law_70 ?_
            refine lv_istore (lv' := [(7, .int (zi (0))), (6, .int (zi ((msZ (hvF n st hr ca) (b) (1) 4)))), (5, .int (zi (1))), (4, .int (zi (b))), (0, .ref (ad 0)), (1, .int (zi (b))), (2, .int (zi (d))), (3, .int (zi (w)))]) (pc := 71) hx hb dX3_law_71 hl (by decide) rfl (fun ls hl => ?_)
            exact outer 0 (by omega) _ _ _ _ (by rfl) (by rfl) ls (lv_sub hl [4, 5, 6, 7, 3, 2, 1, 0] rfl)
          · refine z_sipush (pc := 52) hx hb dX3_law_52 (by decide) ?_
            exact wr_iret hx hb hrt hlk dX3_law_55 hP hS (⟨by rw [lawV, if_pos (by omega), if_pos (by omega)], _, _, _, _, rfl⟩)
        · refine z_sipush (pc := 41) hx hb dX3_law_41 (by decide) ?_
          exact wr_iret hx hb hrt hlk dX3_law_44 hP hS (⟨by rw [lawV, if_neg (by omega)], pcs, fr, lv, hv, rfl⟩)
