set_option maxHeartbeats 4000000 in
set_option maxRecDepth 100000 in
theorem c_X3_plan (D : va_G) (cI cJ : ClassId) (l : Launch) (ad : Nat → Nat) (n : Int) (st hr ca : Nat → Int) (pcs : Int) (fr lv : Nat → Int) (k : Int) (ts th sp hv : Nat → Int) (pr hc : Int) (hV : VT k ts th sp pr hc) (m : Int) (r_m : -2147483648 ≤ m ∧ m ≤ 2147483647) (h : Int) (r_h : -2147483648 ≤ h ∧ h ≤ 2147483647) (w : Int) (r_w : -2147483648 ≤ w ∧ w ≤ 2147483647) (a b : Int) (hbest : ((0 ≤ m ∧ m ≤ 10000) ∧ (1 ≤ h ∧ h ≤ 500) ∧ (0 ≤ w ∧ w ≤ 2)) → isBest (cuZ pr hc h) (chZ pr hc h (sp 2)) m a b) : RD D cI cJ l yX3_plan cX3_plan 9 (some .int) 2 42 [.ref (ad 0), .int (zi (m)), .int (zi (h)), .int (zi (w))] (wX ad cI cJ n st hr ca pcs fr lv k ts th sp hv pr hc) (.int (zi (planV pr hc m h w (sp 2) a b))) := by
  refine RD.of (by decide) (Nat.le_of_ble_eq_true rfl) ?_
  intro p e s mm args below meth c hx hb hrt hml hown hT hlk hK hP ls hl
  replace hl : lv_has ls 9 [(0, .ref (ad 0)), (1, .int (zi (m))), (2, .int (zi (h))), (3, .int (zi (w)))] := hl
  obtain ⟨hk, hts, hth, ht1, hsp, hpr, hhc⟩ := id hV
  have inner : ∀ (z6 : Int), (1 ≤ z6 ∧ z6 ≤ 24) → ((0 ≤ m ∧ m ≤ 10000) ∧ (1 ≤ h ∧ h ≤ 500) ∧ (0 ≤ w ∧ w ≤ 2)) → (a + b < z6 → ∀ ls : Array Slot, lv_has ls 9 [(0, .ref (ad 0)), (1, .int (zi (m))), (3, .int (zi (w))), (4, .int (zi (cuZ pr hc h))), (5, .int (zi (chZ pr hc h (sp 2)))), (6, .int (zi (z6)))] → W p l e (RM 2 42) s mm args below meth c s.heap [] 0 0 (MQ below (QR (.int (zi (planV pr hc m h w (sp 2) a b))) s.heap) args s 0 0 (fun _ => False)) (F0 mm 158 ls [])) → ∀ u : Nat, u ≤ 13 → ∀ (z7 : Int), (z7 = min z6 12 - (u : Int)) → (a + b < z6 ∨ (a + b = z6 ∧ a ≤ z7)) → ∀ ls : Array Slot, lv_has ls 9 [(0, .ref (ad 0)), (1, .int (zi (m))), (3, .int (zi (w))), (4, .int (zi (cuZ pr hc h))), (5, .int (zi (chZ pr hc h (sp 2)))), (6, .int (zi (z6))), (7, .int (zi (z7)))] → W p l e (RM 2 42) s mm args below meth c s.heap [] 0 0 (MQ below (QR (.int (zi (planV pr hc m h w (sp 2) a b))) s.heap) args s 0 0 (fun _ => False)) (F0 mm 91 ls []) := by
    intro z6 h6 hok hex
    refine lp_up (fun u => ∀ (z7 : Int), (z7 = min z6 12 - (u : Int)) → (a + b < z6 ∨ (a + b = z6 ∧ a ≤ z7)) → ∀ ls : Array Slot, lv_has ls 9 [(0, .ref (ad 0)), (1, .int (zi (m))), (3, .int (zi (w))), (4, .int (zi (cuZ pr hc h))), (5, .int (zi (chZ pr hc h (sp 2)))), (6, .int (zi (z6))), (7, .int (zi (z7)))] → W p l e (RM 2 42) s mm args below meth c s.heap [] 0 0 (MQ below (QR (.int (zi (planV pr hc m h w (sp 2) a b))) s.heap) args s 0 0 (fun _ => False)) (F0 mm 91 ls [])) (13) ?_ ?_
    · intro z7 e7 e8 ls hl
      have hcr := cost_rng hpr hhc hok.2.1 (hsp 2 (by omega))
      obtain ⟨hba, hbb, hfe, hbst⟩ := hbest hok
      refine lv_iload (pc := 91) hx hb dX3_plan_91 (lv_at hl 6 rfl) ?_
      refine z_iconst (pc := 93) hx hb dX3_plan_93 ?_
      refine lv_iload (pc := 94) hx hb dX3_plan_94 (lv_at hl 5 rfl) ?_
      refine z_bipush (pc := 96) hx hb dX3_plan_96 (by decide) ?_
      refine z_isub (pc := 98) hx hb dX3_plan_98 ?_
      refine z_mmax (pc := 99) hx hb (hml.trans hl.1.symm) hown (hT _ tw_330) (hT _ tw_224) (hT _ tw_6) (hT _ tw_225) (Nat.le_of_ble_eq_true rfl) (Nat.le_of_ble_eq_true rfl) (Nat.le_of_ble_eq_true rfl) (Nat.le_of_ble_eq_true rfl) (by omega) (by omega) dX3_plan_99 ?_
      refine z_icmp_lt (tgt := 158) (pc := 102) hx hb dX3_plan_102 (by decide) (by omega) (by omega) (fun c_1 => ?_) (fun c_1 => absurd c_1 (by omega))
      exact hex (by omega) ls (lv_sub hl [0, 1, 2, 3, 4, 5] rfl)
    · intro u hu ih z7 e7 e8 ls hl
      have hcr := cost_rng hpr hhc hok.2.1 (hsp 2 (by omega))
      obtain ⟨hba, hbb, hfe, hbst⟩ := hbest hok
      refine lv_iload (pc := 91) hx hb dX3_plan_91 (lv_at hl 6 rfl) ?_
      refine z_iconst (pc := 93) hx hb dX3_plan_93 ?_
      refine lv_iload (pc := 94) hx hb dX3_plan_94 (lv_at hl 5 rfl) ?_
      refine z_bipush (pc := 96) hx hb dX3_plan_96 (by decide) ?_
      refine z_isub (pc := 98) hx hb dX3_plan_98 ?_
      refine z_mmax (pc := 99) hx hb (hml.trans hl.1.symm) hown (hT _ tw_330) (hT _ tw_224) (hT _ tw_6) (hT _ tw_225) (Nat.le_of_ble_eq_true rfl) (Nat.le_of_ble_eq_true rfl) (Nat.le_of_ble_eq_true rfl) (Nat.le_of_ble_eq_true rfl) (by omega) (by omega) dX3_plan_99 ?_
      refine z_icmp_lt (tgt := 158) (pc := 102) hx hb dX3_plan_102 (by decide) (by omega) (by omega) (fun c_2 => ?_) (fun c_2 => ?_)
      · exact hex (by omega) ls (lv_sub hl [0, 1, 2, 3, 4, 5] rfl)
      · have hm1 := mul_rng (a := z7) (b := cuZ pr hc h) (A := 12) (B := 10500) (by omega) (by omega)
        have hm2 := mul_rng (a := z6 - z7) (b := chZ pr hc h (sp 2)) (A := 12) (B := 120500) (by omega) (by omega)
        refine lv_iload (pc := 105) hx hb dX3_plan_105 (lv_at hl 6 rfl) ?_
        refine lv_iload (pc := 107) hx hb dX3_plan_107 (lv_at hl 3 rfl) ?_
        refine z_imul (pc := 109) hx hb dX3_plan_109 ?_
        refine lv_iload (pc := 110) hx hb dX3_plan_110 (lv_at hl 5 rfl) ?_
        refine lv_iload (pc := 112) hx hb dX3_plan_112 (lv_at hl 6 rfl) ?_
        refine z_isub (pc := 114) hx hb dX3_plan_114 ?_
        refine lv_iload (pc := 115) hx hb dX3_plan_115 (lv_at hl 4 rfl) ?_
        refine z_imul (pc := 117) hx hb dX3_plan_117 ?_
        refine z_iadd (pc := 118) hx hb dX3_plan_118 ?_
        refine lv_istore (lv' := [(8, .int (zi (((z7 * cuZ pr hc h) + ((z6 - z7) * chZ pr hc h (sp 2)))))), (0, .ref (ad 0)), (1, .int (zi (m))), (3, .int (zi (w))), (4, .int (zi (cuZ pr hc h))), (5, .int (zi (chZ pr hc h (sp 2)))), (6, .int (zi (z6))), (7, .int (zi (z7)))]) (pc := 119) hx hb dX3_plan_119 hl (by decide) rfl (fun ls hl => ?_)
        refine lv_iload (pc := 121) hx hb dX3_plan_121 (lv_at hl 0 rfl) ?_
        refine lv_iload_n (pc := 123) hx hb dX3_plan_123 rfl (lv_at hl 2 rfl) ?_
        refine z_icmp_gt (tgt := 152) (pc := 124) hx hb dX3_plan_124 (by decide) (by omega) (by omega) (fun c_3 => ?_) (fun c_3 => ?_)
        · have hne : a + b < z6 ∨ (a + b = z6 ∧ a ≤ z7 + (-1)) := by
            rcases e8 with e8 | e8
            · exact Or.inl e8
            · refine Or.inr ⟨e8.1, ?_⟩
              rcases Int.lt_or_le a z7 with q | q
              · omega
              · exfalso
                have ez : a = z7 := by omega
                have eb : b = z6 - z7 := by omega
                rw [ez, eb] at hfe
                omega
          refine lv_iinc (v := zi (z7 + (-1))) (lv' := [(7, .int (zi ((z7 + (-1))))), (8, .int (zi (((z7 * cuZ pr hc h) + ((z6 - z7) * chZ pr hc h (sp 2)))))), (0, .ref (ad 0)), (1, .int (zi (m))), (3, .int (zi (w))), (4, .int (zi (cuZ pr hc h))), (5, .int (zi (chZ pr hc h (sp 2)))), (6, .int (zi (z6)))]) (pc := 152) hx hb dX3_plan_152 hl (k := 7) rfl (zi_add _ _) (by decide) rfl (fun ls hl => ?_)
          refine lv_goto (tgt := 91) (pc := 155) hx hb dX3_plan_155 (by decide) ?_
          exact ih  _ (by omega) (hne) ls (lv_sub hl [2, 3, 4, 5, 6, 7, 0] rfl)
        · have hq := hbst z7 (z6 - z7) (by omega) (by omega) (by omega)
          have ez : z7 = a := by omega
          have ew : z6 - z7 = b := by omega
          refine lv_iload_n (pc := 127) hx hb dX3_plan_127 rfl (lv_at hl 3 rfl) ?_
          refine z_if_ne (tgt := 136) (pc := 128) hx hb dX3_plan_128 (by decide) (by omega) (fun c_4 => ?_) (fun c_4 => ?_)
          · refine lv_iload_n (pc := 136) hx hb dX3_plan_136 rfl (lv_at hl 3 rfl) ?_
            refine z_iconst (pc := 137) hx hb dX3_plan_137 ?_
            refine z_icmp_ne (tgt := 149) (pc := 138) hx hb dX3_plan_138 (by decide) (by omega) (by omega) (fun c_5 => ?_) (fun c_5 => ?_)
            · refine lv_iload (pc := 149) hx hb dX3_plan_149 (lv_at hl 0 rfl) ?_
              exact rd_iret hx hb hrt hlk dX3_plan_151 (by rw [planV, if_pos hok, if_neg (by omega), if_neg (by omega), ez, show z6 - a = b by omega])
            · refine lv_iload (pc := 141) hx hb dX3_plan_141 (lv_at hl 6 rfl) ?_
              refine lv_iload (pc := 143) hx hb dX3_plan_143 (lv_at hl 7 rfl) ?_
              refine z_isub (pc := 145) hx hb dX3_plan_145 ?_
              refine lv_goto (tgt := 151) (pc := 146) hx hb dX3_plan_146 (by decide) ?_
              exact rd_iret hx hb hrt hlk dX3_plan_151 (by rw [planV, if_pos hok, if_neg (by omega), if_pos (by omega), ew])
          · refine lv_iload (pc := 131) hx hb dX3_plan_131 (lv_at hl 7 rfl) ?_
            refine lv_goto (tgt := 151) (pc := 133) hx hb dX3_plan_133 (by decide) ?_
            exact rd_iret hx hb hrt hlk dX3_plan_151 (by rw [planV, if_pos hok, if_pos (by omega), ez])
  have outer : ∀ u : Nat, u ≤ 24 → ∀ (z6 : Int), (z6 = 24 - (u : Int)) → (a + b ≤ z6) → ((0 ≤ m ∧ m ≤ 10000) ∧ (1 ≤ h ∧ h ≤ 500) ∧ (0 ≤ w ∧ w ≤ 2)) → ∀ ls : Array Slot, lv_has ls 9 [(0, .ref (ad 0)), (1, .int (zi (m))), (3, .int (zi (w))), (4, .int (zi (cuZ pr hc h))), (5, .int (zi (chZ pr hc h (sp 2)))), (6, .int (zi (z6)))] → W p l e (RM 2 42) s mm args below meth c s.heap [] 0 0 (MQ below (QR (.int (zi (planV pr hc m h w (sp 2) a b))) s.heap) args s 0 0 (fun _ => False)) (F0 mm 77 ls []) := by
    refine lp_up (fun u => ∀ (z6 : Int), (z6 = 24 - (u : Int)) → (a + b ≤ z6) → ((0 ≤ m ∧ m ≤ 10000) ∧ (1 ≤ h ∧ h ≤ 500) ∧ (0 ≤ w ∧ w ≤ 2)) → ∀ ls : Array Slot, lv_has ls 9 [(0, .ref (ad 0)), (1, .int (zi (m))), (3, .int (zi (w))), (4, .int (zi (cuZ pr hc h))), (5, .int (zi (chZ pr hc h (sp 2)))), (6, .int (zi (z6)))] → W p l e (RM 2 42) s mm args below meth c s.heap [] 0 0 (MQ below (QR (.int (zi (planV pr hc m h w (sp 2) a b))) s.heap) args s 0 0 (fun _ => False)) (F0 mm 77 ls [])) (24) ?_ ?_
    · intro z6 e6 e5 hok ls hl
      obtain ⟨hba, hbb, hfe, hbst⟩ := hbest hok
      refine lv_iload (pc := 77) hx hb dX3_plan_77 (lv_at hl 5 rfl) ?_
      refine z_if_le (tgt := 164) (pc := 79) hx hb dX3_plan_79 (by decide) (by omega) (fun c_6 => ?_) (fun c_6 => absurd c_6 (by omega))
      refine z_iconst (pc := 164) hx hb dX3_plan_164 ?_
      exact rd_iret hx hb hrt hlk dX3_plan_165 (by rw [planV, if_pos hok, show a = 0 by omega, show b = 0 by omega]; simp)
    · intro u hu ih z6 e6 e5 hok ls hl
      obtain ⟨hba, hbb, hfe, hbst⟩ := hbest hok
      refine lv_iload (pc := 77) hx hb dX3_plan_77 (lv_at hl 5 rfl) ?_
      refine z_if_le (tgt := 164) (pc := 79) hx hb dX3_plan_79 (by decide) (by omega) (fun c_7 => absurd c_7 (by omega)) (fun c_7 => ?_)
      refine lv_iload (pc := 82) hx hb dX3_plan_82 (lv_at hl 5 rfl) ?_
      refine z_bipush (pc := 84) hx hb dX3_plan_84 (by decide) ?_
      refine z_mmin (pc := 86) hx hb (hml.trans hl.1.symm) hown (hT _ tw_329) (hT _ tw_221) (hT _ tw_6) (hT _ tw_222) (Nat.le_of_ble_eq_true rfl) (Nat.le_of_ble_eq_true rfl) (Nat.le_of_ble_eq_true rfl) (Nat.le_of_ble_eq_true rfl) (by omega) (by omega) dX3_plan_86 ?_
      refine lv_istore (lv' := [(7, .int (zi ((min z6 12)))), (0, .ref (ad 0)), (1, .int (zi (m))), (3, .int (zi (w))), (4, .int (zi (cuZ pr hc h))), (5, .int (zi (chZ pr hc h (sp 2)))), (6, .int (zi (z6)))]) (pc := 89) hx hb dX3_plan_89 hl (by decide) rfl (fun ls hl => ?_)
      refine inner _ (by omega) hok ?_ 0 (by omega) _ (by omega) (by omega) ls (lv_sub hl [1, 2, 3, 4, 5, 6, 0] rfl)
      intro hlt ls hl
      refine lv_iinc (v := zi (z6 + (-1))) (lv' := [(6, .int (zi ((z6 + (-1))))), (0, .ref (ad 0)), (1, .int (zi (m))), (3, .int (zi (w))), (4, .int (zi (cuZ pr hc h))), (5, .int (zi (chZ pr hc h (sp 2))))]) (pc := 158) hx hb dX3_plan_158 hl (k := 5) rfl (zi_add _ _) (by decide) rfl (fun ls hl => ?_)
      refine lv_goto (tgt := 77) (pc := 161) hx hb dX3_plan_161 (by decide) ?_
      exact ih  _ (by omega) (by omega) (hok) ls (lv_sub hl [1, 2, 3, 4, 5, 0] rfl)
  refine lv_iload_n (pc := 0) hx hb dX3_plan_0 rfl (lv_at hl 1 rfl) ?_
  refine z_iconst (pc := 1) hx hb dX3_plan_1 ?_
  refine z_sipush (pc := 2) hx hb dX3_plan_2 (by decide) ?_
  refine rd_S (pc := 5) hx hb hml hown hT hK (c_X3_isWithin D cI cJ l (m) (by omega) (0) (by omega) (10000) (by omega)) ca_X3_isWithin tw_107 va_Pnil ⟨Nat.le_of_ble_eq_true rfl, Nat.le_of_ble_eq_true rfl⟩ rfl hl.1 (As := [.int (zi (m)), .int (zi (0)), .int (zi (10000))]) (rest := []) rfl (Nat.le_of_ble_eq_true rfl) ⟨Nat.le_of_ble_eq_true rfl, Nat.le_of_ble_eq_true rfl⟩ dX3_plan_5 ?_
  refine z_ifB_eq (tgt := 31) (pc := 8) hx hb dX3_plan_8 (by decide) (fun c_8 => ?_) (fun c_8 => ?_)
  · refine z_sipush (pc := 31) hx hb dX3_plan_31 (by decide) ?_
    exact rd_iret hx hb hrt hlk dX3_plan_34 (by rw [planV, if_neg (by omega)])
  · refine lv_iload_n (pc := 11) hx hb dX3_plan_11 rfl (lv_at hl 2 rfl) ?_
    refine z_iconst (pc := 12) hx hb dX3_plan_12 ?_
    refine z_sipush (pc := 13) hx hb dX3_plan_13 (by decide) ?_
    refine rd_S (pc := 16) hx hb hml hown hT hK (c_X3_isWithin D cI cJ l (h) (by omega) (1) (by omega) (500) (by omega)) ca_X3_isWithin tw_107 va_Pnil ⟨Nat.le_of_ble_eq_true rfl, Nat.le_of_ble_eq_true rfl⟩ rfl hl.1 (As := [.int (zi (h)), .int (zi (1)), .int (zi (500))]) (rest := []) rfl (Nat.le_of_ble_eq_true rfl) ⟨Nat.le_of_ble_eq_true rfl, Nat.le_of_ble_eq_true rfl⟩ dX3_plan_16 ?_
    refine z_ifB_eq (tgt := 31) (pc := 19) hx hb dX3_plan_19 (by decide) (fun c_9 => ?_) (fun c_9 => ?_)
    · refine z_sipush (pc := 31) hx hb dX3_plan_31 (by decide) ?_
      exact rd_iret hx hb hrt hlk dX3_plan_34 (by rw [planV, if_neg (by omega)])
    · refine lv_iload_n (pc := 22) hx hb dX3_plan_22 rfl (lv_at hl 3 rfl) ?_
      refine z_iconst (pc := 23) hx hb dX3_plan_23 ?_
      refine z_iconst (pc := 24) hx hb dX3_plan_24 ?_
      refine rd_S (pc := 25) hx hb hml hown hT hK (c_X3_isWithin D cI cJ l (w) (by omega) (0) (by omega) (2) (by omega)) ca_X3_isWithin tw_107 va_Pnil ⟨Nat.le_of_ble_eq_true rfl, Nat.le_of_ble_eq_true rfl⟩ rfl hl.1 (As := [.int (zi (w)), .int (zi (0)), .int (zi (2))]) (rest := []) rfl (Nat.le_of_ble_eq_true rfl) ⟨Nat.le_of_ble_eq_true rfl, Nat.le_of_ble_eq_true rfl⟩ dX3_plan_25 ?_
      refine z_ifB_ne (tgt := 35) (pc := 28) hx hb dX3_plan_28 (by decide) (fun c_10 => ?_) (fun c_10 => ?_)
      · have hok : (0 ≤ m ∧ m ≤ 10000) ∧ (1 ≤ h ∧ h ≤ 500) ∧ (0 ≤ w ∧ w ≤ 2) := by omega
        have hcr := cost_rng hpr hhc hok.2.1 (hsp 2 (by omega))
        obtain ⟨hba, hbb, hfe, hbst⟩ := hbest hok
        refine lv_aload_n (pc := 35) hx hb dX3_plan_35 rfl (lv_at hl 0 rfl) ?_
        refine va_get (D := D) (cl := vwCl) (ci := 3) (v := .int (zi (pr))) (C := RX3) (T := TX3) (N := 7) (pc := 36) hx hb hT inT3 hown hK.1 hP 0 rfl rfl 5 (by decide) (hT _ tw_80) (fun _ h9 => h9) rfl dX3_plan_36 ?_
        refine lv_iload_n (pc := 39) hx hb dX3_plan_39 rfl (lv_at hl 2 rfl) ?_
        refine lv_aload_n (pc := 40) hx hb dX3_plan_40 rfl (lv_at hl 0 rfl) ?_
        refine va_get (D := D) (cl := vwCl) (ci := 3) (v := .int (zi (hc))) (C := RX3) (T := TX3) (N := 7) (pc := 41) hx hb hT inT3 hown hK.1 hP 0 rfl rfl 6 (by decide) (hT _ tw_81) (fun _ h9 => h9) rfl dX3_plan_41 ?_
        refine z_imul (pc := 44) hx hb dX3_plan_44 ?_
        refine z_iadd (pc := 45) hx hb dX3_plan_45 ?_
        refine lv_istore (lv' := [(4, .int (zi ((pr + (h * hc))))), (0, .ref (ad 0)), (1, .int (zi (m))), (2, .int (zi (h))), (3, .int (zi (w)))]) (pc := 46) hx hb dX3_plan_46 hl (by decide) rfl (fun ls hl => ?_)
        refine lv_aload_n (pc := 48) hx hb dX3_plan_48 rfl (lv_at hl 1 rfl) ?_
        refine va_get (D := D) (cl := vwCl) (ci := 3) (v := .int (zi (pr))) (C := RX3) (T := TX3) (N := 7) (pc := 49) hx hb hT inT3 hown hK.1 hP 0 rfl rfl 5 (by decide) (hT _ tw_80) (fun _ h9 => h9) rfl dX3_plan_49 ?_
        refine lv_iload_n (pc := 52) hx hb dX3_plan_52 rfl (lv_at hl 3 rfl) ?_
        refine z_bipush (pc := 53) hx hb dX3_plan_53 (by decide) ?_
        refine z_imul (pc := 55) hx hb dX3_plan_55 ?_
        refine lv_aload_n (pc := 56) hx hb dX3_plan_56 rfl (lv_at hl 1 rfl) ?_
        refine va_get (D := D) (cl := vwCl) (ci := 3) (v := .ref (ad 4)) (C := RX3) (T := TX3) (N := 7) (pc := 57) hx hb hT inT3 hown hK.1 hP 0 rfl rfl 3 (by decide) (hT _ tw_78) (fun _ h9 => h9) rfl dX3_plan_57 ?_
        refine z_iconst (pc := 60) hx hb dX3_plan_60 ?_
        refine z_iald (pc := 61) hx hb hK hP 4 (2) (f := sp) rfl (by omega) (by omega) (by omega) dX3_plan_61 ?_
        have r_11 := hsp (2) (by omega)
        refine rd_S (pc := 62) hx hb hml hown hT hK (c_X3_roundedUp D cI cJ l ((h * 10)) ((sp (2))) (by omega)) ca_X3_roundedUp tw_295 va_Pnil ⟨Nat.le_of_ble_eq_true rfl, Nat.le_of_ble_eq_true rfl⟩ rfl hl.1 (As := [.int (zi ((h * 10))), .int (zi ((sp (2))))]) (rest := [.int (zi (pr))]) rfl (Nat.le_of_ble_eq_true rfl) ⟨Nat.le_of_ble_eq_true rfl, Nat.le_of_ble_eq_true rfl⟩ dX3_plan_62 ?_
        refine lv_aload_n (pc := 65) hx hb dX3_plan_65 rfl (lv_at hl 1 rfl) ?_
        refine va_get (D := D) (cl := vwCl) (ci := 3) (v := .int (zi (hc))) (C := RX3) (T := TX3) (N := 7) (pc := 66) hx hb hT inT3 hown hK.1 hP 0 rfl rfl 6 (by decide) (hT _ tw_81) (fun _ h9 => h9) rfl dX3_plan_66 ?_
        refine z_imul (pc := 69) hx hb dX3_plan_69 ?_
        refine z_iadd (pc := 70) hx hb dX3_plan_70 ?_
        refine lv_istore (lv' := [(5, .int (zi ((pr + ((((h * 10) + (sp (2)) - 1) / (sp (2))) * hc))))), (4, .int (zi ((pr + (h * hc))))), (0, .ref (ad 0)), (1, .int (zi (m))), (2, .int (zi (h))), (3, .int (zi (w)))]) (pc := 71) hx hb dX3_plan_71 hl (by decide) rfl (fun ls hl => ?_)
        refine z_bipush (pc := 73) hx hb dX3_plan_73 (by decide) ?_
        refine lv_istore (lv' := [(6, .int (zi (24))), (5, .int (zi ((pr + ((((h * 10) + (sp (2)) - 1) / (sp (2))) * hc))))), (4, .int (zi ((pr + (h * hc))))), (0, .ref (ad 0)), (1, .int (zi (m))), (2, .int (zi (h))), (3, .int (zi (w)))]) (pc := 75) hx hb dX3_plan_75 hl (by decide) rfl (fun ls hl => ?_)
        exact outer 0 (by omega) _ (by omega) (by omega) (by omega) ls (lv_sub hl [3, 4, 6, 2, 1, 0] rfl)
      · refine z_sipush (pc := 31) hx hb dX3_plan_31 (by decide) ?_
        exact rd_iret hx hb hrt hlk dX3_plan_34 (by rw [planV, if_neg (by omega)])
