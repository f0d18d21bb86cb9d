set_option maxHeartbeats 4000000 in
set_option maxRecDepth 100000 in
theorem c_X4_plan (D : va_G) (cI cJ : ClassId) (l : Launch) (ad : Nat → Nat) (n : Int) (st hr ca sp : Nat → Int) (k : Int) (ts th : Nat → Int) (pr hc lu ll up lo : Int) (fr rr hv : Nat → Int) (hV : VT k ts th sp pr hc) (m : Int) (r_m : -2147483648 ≤ m ∧ m ≤ 2147483647) (h : Int) (r_h : -2147483648 ≤ h ∧ h ≤ 2147483647) (w : Int) (r_w : -2147483648 ≤ w ∧ w ≤ 2147483647) (a b : Int) (hbest : ((0 ≤ m ∧ m ≤ 10000) ∧ (1 ≤ h ∧ h ≤ 500) ∧ (0 ≤ w ∧ w ≤ 2)) → isBest (cuZ pr hc h) (chZ pr hc h (sp 2)) m a b) : RD D cI cJ l yX4_plan cX4_plan 12 (some .int) 1 25 [.ref (ad 0), .int (zi (m)), .int (zi (h)), .int (zi (w))] (wM ad cI n st hr ca sp k ts th pr hc lu ll up lo fr rr hv) (.int (zi (planV pr hc m h w (sp 2) a b))) := by
  refine RD.of (by decide) (Nat.le_of_ble_eq_true rfl) ?_
  intro p e s mm args below meth c hx hb hrt hml hown hT hlk hK hP ls hl
  replace hl : lv_has ls 12 [(0, .ref (ad 0)), (1, .int (zi (m))), (2, .int (zi (h))), (3, .int (zi (w)))] := hl
  obtain ⟨hk, hts, hth, ht1, hsp, hpr, hhc⟩ := id hV
  have inner : ∀ (z4 z5 z8 : Int), (z4 = cuZ pr hc h ∧ z5 = chZ pr hc h (sp 2)) → (0 ≤ z8 ∧ z8 ≤ 12) → ((0 ≤ m ∧ m ≤ 10000) ∧ (1 ≤ h ∧ h ≤ 500) ∧ (0 ≤ w ∧ w ≤ 2)) → (∀ z6 z7 : Int, ((0 ≤ z6 ∧ z6 ≤ 12) ∧ (0 ≤ z7 ∧ z7 ≤ 12) ∧ feas (cuZ pr hc h) (chZ pr hc h (sp 2)) m z6 z7) → (a < z8 + 1 → z6 = a ∧ z7 = b) → ∀ ls : Array Slot, lv_has ls 12 [(1, .int (zi (m))), (3, .int (zi (w))), (4, .int (zi (z4))), (5, .int (zi (z5))), (6, .int (zi (z6))), (7, .int (zi (z7))), (8, .int (zi (z8)))] → W p l e (RM 1 25) s mm args below meth c s.heap [] 0 0 (MQ below (QR (.int (zi (planV pr hc m h w (sp 2) a b))) s.heap) args s 0 0 (fun _ => False)) (F0 mm 182 ls [])) → ∀ v : Nat, v ≤ 13 → ∀ (z6 z7 z9 : Int), (z9 = (v : Int)) → (((0 ≤ z6 ∧ z6 ≤ 12) ∧ (0 ≤ z7 ∧ z7 ≤ 12) ∧ feas (cuZ pr hc h) (chZ pr hc h (sp 2)) m z6 z7)) → (a < z8 ∨ (a = z8 ∧ b < z9) → z6 = a ∧ z7 = b) → ∀ ls : Array Slot, lv_has ls 12 [(1, .int (zi (m))), (3, .int (zi (w))), (4, .int (zi (z4))), (5, .int (zi (z5))), (6, .int (zi (z6))), (7, .int (zi (z7))), (8, .int (zi (z8))), (9, .int (zi (z9)))] → W p l e (RM 1 25) s mm args below meth c s.heap [] 0 0 (MQ below (QR (.int (zi (planV pr hc m h w (sp 2) a b))) s.heap) args s 0 0 (fun _ => False)) (F0 mm 104 ls []) := by
    intro z4 z5 z8 e45 h8 hok hex
    refine lp_up (fun v => ∀ (z6 z7 z9 : Int), (z9 = (v : Int)) → (((0 ≤ z6 ∧ z6 ≤ 12) ∧ (0 ≤ z7 ∧ z7 ≤ 12) ∧ feas (cuZ pr hc h) (chZ pr hc h (sp 2)) m z6 z7)) → (a < z8 ∨ (a = z8 ∧ b < z9) → z6 = a ∧ z7 = b) → ∀ ls : Array Slot, lv_has ls 12 [(1, .int (zi (m))), (3, .int (zi (w))), (4, .int (zi (z4))), (5, .int (zi (z5))), (6, .int (zi (z6))), (7, .int (zi (z7))), (8, .int (zi (z8))), (9, .int (zi (z9)))] → W p l e (RM 1 25) s mm args below meth c s.heap [] 0 0 (MQ below (QR (.int (zi (planV pr hc m h w (sp 2) a b))) s.heap) args s 0 0 (fun _ => False)) (F0 mm 104 ls [])) (13) ?_ ?_
    · intro z6 z7 z9 e9 e6 e7 ls hl
      have hcr := cost_rng hpr hhc hok.2.1 (hsp 2 (by omega))
      obtain ⟨hba, hbb, hfe, hbst⟩ := hbest hok
      refine lv_iload (pc := 104) hx hb dX4_plan_104 (lv_at hl 7 rfl) ?_
      refine z_bipush (pc := 106) hx hb dX4_plan_106 (by decide) ?_
      refine z_icmp_gt (tgt := 182) (pc := 108) hx hb dX4_plan_108 (by decide) (by omega) (by omega) (fun c_1 => ?_) (fun c_1 => absurd c_1 (by omega))
      exact hex _ _ e6 (fun q => e7 (by omega)) ls (lv_sub hl [0, 1, 2, 3, 4, 5, 6] rfl)
    · intro v hv ih z6 z7 z9 e9 e6 e7 ls hl
      have hcr := cost_rng hpr hhc hok.2.1 (hsp 2 (by omega))
      obtain ⟨hba, hbb, hfe, hbst⟩ := hbest hok
      refine lv_iload (pc := 104) hx hb dX4_plan_104 (lv_at hl 7 rfl) ?_
      refine z_bipush (pc := 106) hx hb dX4_plan_106 (by decide) ?_
      refine z_icmp_gt (tgt := 182) (pc := 108) hx hb dX4_plan_108 (by decide) (by omega) (by omega) (fun c_2 => absurd c_2 (by omega)) (fun c_2 => ?_)
      have hm1 := mul_rng (a := z8) (b := z4) (A := 12) (B := 10500) (by omega) (by omega)
      have hm2 := mul_rng (a := z9) (b := z5) (A := 12) (B := 120500) (by omega) (by omega)
      have hq6 := hbst z6 z7 e6.1 e6.2.1 e6.2.2
      refine lv_iload (pc := 111) hx hb dX4_plan_111 (lv_at hl 6 rfl) ?_
      refine lv_iload (pc := 113) hx hb dX4_plan_113 (lv_at hl 2 rfl) ?_
      refine z_imul (pc := 115) hx hb dX4_plan_115 ?_
      refine lv_iload (pc := 116) hx hb dX4_plan_116 (lv_at hl 7 rfl) ?_
      refine lv_iload (pc := 118) hx hb dX4_plan_118 (lv_at hl 3 rfl) ?_
      refine z_imul (pc := 120) hx hb dX4_plan_120 ?_
      refine z_iadd (pc := 121) hx hb dX4_plan_121 ?_
      refine lv_iload_n (pc := 122) hx hb dX4_plan_122 rfl (lv_at hl 0 rfl) ?_
      refine z_icmp_gt (tgt := 130) (pc := 123) hx hb dX4_plan_123 (by decide) (by omega) (by omega) (fun c_3 => ?_) (fun c_3 => ?_)
      · refine z_iconst (pc := 130) hx hb dX4_plan_130 ?_
        refine lv_istore (lv' := [(10, .int (zi (0))), (1, .int (zi (m))), (3, .int (zi (w))), (4, .int (zi (z4))), (5, .int (zi (z5))), (6, .int (zi (z6))), (7, .int (zi (z7))), (8, .int (zi (z8))), (9, .int (zi (z9)))]) (pc := 131) hx hb dX4_plan_131 hl (by decide) rfl (fun ls hl => ?_)
        refine lv_iload (pc := 133) hx hb dX4_plan_133 (lv_at hl 7 rfl) ?_
        refine lv_iload (pc := 135) hx hb dX4_plan_135 (lv_at hl 8 rfl) ?_
        refine z_iadd (pc := 137) hx hb dX4_plan_137 ?_
        refine lv_iload (pc := 138) hx hb dX4_plan_138 (lv_at hl 5 rfl) ?_
        refine z_isub (pc := 140) hx hb dX4_plan_140 ?_
        refine lv_iload (pc := 141) hx hb dX4_plan_141 (lv_at hl 6 rfl) ?_
        refine z_isub (pc := 143) hx hb dX4_plan_143 ?_
        refine lv_istore (lv' := [(11, .int (zi ((((z8 + z9) - z6) - z7)))), (10, .int (zi (0))), (1, .int (zi (m))), (3, .int (zi (w))), (4, .int (zi (z4))), (5, .int (zi (z5))), (6, .int (zi (z6))), (7, .int (zi (z7))), (8, .int (zi (z8))), (9, .int (zi (z9)))]) (pc := 144) hx hb dX4_plan_144 hl (by decide) rfl (fun ls hl => ?_)
        refine lv_iload (pc := 146) hx hb dX4_plan_146 (lv_at hl 1 rfl) ?_
        refine z_if_eq (tgt := 176) (pc := 148) hx hb dX4_plan_148 (by decide) (by omega) (fun c_4 => ?_) (fun c_4 => ?_)
        · have hnew : ((0 ≤ z6 ∧ z6 ≤ 12) ∧ (0 ≤ z7 ∧ z7 ≤ 12) ∧ feas (cuZ pr hc h) (chZ pr hc h (sp 2)) m z6 z7) ∧ (a < z8 ∨ (a = z8 ∧ b < z9 + 1) → z6 = a ∧ z7 = b) := ⟨e6, fun q => by
            by_cases hq : a < z8 ∨ (a = z8 ∧ b < z9)
            · exact e7 hq
            · have ea : z8 = a := by omega
              have eb : z9 = b := by omega
              have hfe2 : z8 * z4 + z9 * z5 ≤ m := by rw [ea, eb, e45.1, e45.2]; exact hfe
              omega⟩
          refine lv_iinc (v := zi (z9 + 1)) (lv' := [(9, .int (zi ((z9 + 1)))), (11, .int (zi ((((z8 + z9) - z6) - z7)))), (10, .int (zi (0))), (1, .int (zi (m))), (3, .int (zi (w))), (4, .int (zi (z4))), (5, .int (zi (z5))), (6, .int (zi (z6))), (7, .int (zi (z7))), (8, .int (zi (z8)))]) (pc := 176) hx hb dX4_plan_176 hl (k := 9) rfl (zi_add _ _) (by decide) rfl (fun ls hl => ?_)
          refine lv_goto (tgt := 104) (pc := 179) hx hb dX4_plan_179 (by decide) ?_
          exact ih  _ _ _ (by omega) (hnew.1) (hnew.2) ls (lv_sub hl [3, 4, 5, 6, 7, 8, 9, 0] rfl)
        · refine lv_iload (pc := 151) hx hb dX4_plan_151 (lv_at hl 0 rfl) ?_
          refine z_if_gt (tgt := 168) (pc := 153) hx hb dX4_plan_153 (by decide) (by omega) (fun c_5 => ?_) (fun c_5 => ?_)
          · refine lv_iload (pc := 168) hx hb dX4_plan_168 (lv_at hl 8 rfl) ?_
            refine lv_istore (lv' := [(6, .int (zi (z8))), (11, .int (zi ((((z8 + z9) - z6) - z7)))), (10, .int (zi (0))), (1, .int (zi (m))), (3, .int (zi (w))), (4, .int (zi (z4))), (5, .int (zi (z5))), (7, .int (zi (z7))), (8, .int (zi (z8))), (9, .int (zi (z9)))]) (pc := 170) hx hb dX4_plan_170 hl (by decide) rfl (fun ls hl => ?_)
            refine lv_iload (pc := 172) hx hb dX4_plan_172 (lv_at hl 9 rfl) ?_
            refine lv_istore (lv' := [(7, .int (zi (z9))), (6, .int (zi (z8))), (11, .int (zi ((((z8 + z9) - z6) - z7)))), (10, .int (zi (0))), (1, .int (zi (m))), (3, .int (zi (w))), (4, .int (zi (z4))), (5, .int (zi (z5))), (8, .int (zi (z8))), (9, .int (zi (z9)))]) (pc := 174) hx hb dX4_plan_174 hl (by decide) rfl (fun ls hl => ?_)
            have hf : feas (cuZ pr hc h) (chZ pr hc h (sp 2)) m z8 z9 := by first | (exfalso; omega) | (rw [feas, ← e45.1, ← e45.2]; omega)
            have hq8 := hbst z8 z9 (by omega) (by omega) hf
            have hnew : ((0 ≤ z8 ∧ z8 ≤ 12) ∧ (0 ≤ z9 ∧ z9 ≤ 12) ∧ feas (cuZ pr hc h) (chZ pr hc h (sp 2)) m z8 z9) ∧ (a < z8 ∨ (a = z8 ∧ b < z9 + 1) → z8 = a ∧ z9 = b) := ⟨⟨by omega, by omega, hf⟩, fun q => by
              by_cases hq : a < z8 ∨ (a = z8 ∧ b < z9)
              · have := e7 hq; omega
              · omega⟩
            refine lv_iinc (v := zi (z9 + 1)) (lv' := [(9, .int (zi ((z9 + 1)))), (7, .int (zi (z9))), (6, .int (zi (z8))), (11, .int (zi ((((z8 + z9) - z6) - z7)))), (10, .int (zi (0))), (1, .int (zi (m))), (3, .int (zi (w))), (4, .int (zi (z4))), (5, .int (zi (z5))), (8, .int (zi (z8)))]) (pc := 176) hx hb dX4_plan_176 hl (k := 9) rfl (zi_add _ _) (by decide) rfl (fun ls hl => ?_)
            refine lv_goto (tgt := 104) (pc := 179) hx hb dX4_plan_179 (by decide) ?_
            exact ih  _ _ _ (by omega) (hnew.1) (hnew.2) ls (lv_sub hl [5, 6, 7, 8, 2, 1, 9, 0] rfl)
          · refine lv_iload (pc := 156) hx hb dX4_plan_156 (lv_at hl 0 rfl) ?_
            refine z_if_ne (tgt := 176) (pc := 158) hx hb dX4_plan_158 (by decide) (by omega) (fun c_6 => ?_) (fun c_6 => ?_)
            · have hnew : ((0 ≤ z6 ∧ z6 ≤ 12) ∧ (0 ≤ z7 ∧ z7 ≤ 12) ∧ feas (cuZ pr hc h) (chZ pr hc h (sp 2)) m z6 z7) ∧ (a < z8 ∨ (a = z8 ∧ b < z9 + 1) → z6 = a ∧ z7 = b) := ⟨e6, fun q => by
                by_cases hq : a < z8 ∨ (a = z8 ∧ b < z9)
                · exact e7 hq
                · have ea : z8 = a := by omega
                  have eb : z9 = b := by omega
                  have hfe2 : z8 * z4 + z9 * z5 ≤ m := by rw [ea, eb, e45.1, e45.2]; exact hfe
                  omega⟩
              refine lv_iinc (v := zi (z9 + 1)) (lv' := [(9, .int (zi ((z9 + 1)))), (11, .int (zi ((((z8 + z9) - z6) - z7)))), (10, .int (zi (0))), (1, .int (zi (m))), (3, .int (zi (w))), (4, .int (zi (z4))), (5, .int (zi (z5))), (6, .int (zi (z6))), (7, .int (zi (z7))), (8, .int (zi (z8)))]) (pc := 176) hx hb dX4_plan_176 hl (k := 9) rfl (zi_add _ _) (by decide) rfl (fun ls hl => ?_)
              refine lv_goto (tgt := 104) (pc := 179) hx hb dX4_plan_179 (by decide) ?_
              exact ih  _ _ _ (by omega) (hnew.1) (hnew.2) ls (lv_sub hl [3, 4, 5, 6, 7, 8, 9, 0] rfl)
            · refine lv_iload (pc := 161) hx hb dX4_plan_161 (lv_at hl 8 rfl) ?_
              refine lv_iload (pc := 163) hx hb dX4_plan_163 (lv_at hl 6 rfl) ?_
              refine z_icmp_le (tgt := 176) (pc := 165) hx hb dX4_plan_165 (by decide) (by omega) (by omega) (fun c_7 => ?_) (fun c_7 => ?_)
              · have hnew : ((0 ≤ z6 ∧ z6 ≤ 12) ∧ (0 ≤ z7 ∧ z7 ≤ 12) ∧ feas (cuZ pr hc h) (chZ pr hc h (sp 2)) m z6 z7) ∧ (a < z8 ∨ (a = z8 ∧ b < z9 + 1) → z6 = a ∧ z7 = b) := ⟨e6, fun q => by
                  by_cases hq : a < z8 ∨ (a = z8 ∧ b < z9)
                  · exact e7 hq
                  · have ea : z8 = a := by omega
                    have eb : z9 = b := by omega
                    have hfe2 : z8 * z4 + z9 * z5 ≤ m := by rw [ea, eb, e45.1, e45.2]; exact hfe
                    omega⟩
                refine lv_iinc (v := zi (z9 + 1)) (lv' := [(9, .int (zi ((z9 + 1)))), (11, .int (zi ((((z8 + z9) - z6) - z7)))), (10, .int (zi (0))), (1, .int (zi (m))), (3, .int (zi (w))), (4, .int (zi (z4))), (5, .int (zi (z5))), (6, .int (zi (z6))), (7, .int (zi (z7))), (8, .int (zi (z8)))]) (pc := 176) hx hb dX4_plan_176 hl (k := 9) rfl (zi_add _ _) (by decide) rfl (fun ls hl => ?_)
                refine lv_goto (tgt := 104) (pc := 179) hx hb dX4_plan_179 (by decide) ?_
                exact ih  _ _ _ (by omega) (hnew.1) (hnew.2) ls (lv_sub hl [3, 4, 5, 6, 7, 8, 9, 0] rfl)
              · refine lv_iload (pc := 168) hx hb dX4_plan_168 (lv_at hl 8 rfl) ?_
                refine lv_istore (lv' := [(6, .int (zi (z8))), (11, .int (zi ((((z8 + z9) - z6) - z7)))), (10, .int (zi (0))), (1, .int (zi (m))), (3, .int (zi (w))), (4, .int (zi (z4))), (5, .int (zi (z5))), (7, .int (zi (z7))), (8, .int (zi (z8))), (9, .int (zi (z9)))]) (pc := 170) hx hb dX4_plan_170 hl (by decide) rfl (fun ls hl => ?_)
                refine lv_iload (pc := 172) hx hb dX4_plan_172 (lv_at hl 9 rfl) ?_
                refine lv_istore (lv' := [(7, .int (zi (z9))), (6, .int (zi (z8))), (11, .int (zi ((((z8 + z9) - z6) - z7)))), (10, .int (zi (0))), (1, .int (zi (m))), (3, .int (zi (w))), (4, .int (zi (z4))), (5, .int (zi (z5))), (8, .int (zi (z8))), (9, .int (zi (z9)))]) (pc := 174) hx hb dX4_plan_174 hl (by decide) rfl (fun ls hl => ?_)
                have hf : feas (cuZ pr hc h) (chZ pr hc h (sp 2)) m z8 z9 := by first | (exfalso; omega) | (rw [feas, ← e45.1, ← e45.2]; omega)
                have hq8 := hbst z8 z9 (by omega) (by omega) hf
                have hnew : ((0 ≤ z8 ∧ z8 ≤ 12) ∧ (0 ≤ z9 ∧ z9 ≤ 12) ∧ feas (cuZ pr hc h) (chZ pr hc h (sp 2)) m z8 z9) ∧ (a < z8 ∨ (a = z8 ∧ b < z9 + 1) → z8 = a ∧ z9 = b) := ⟨⟨by omega, by omega, hf⟩, fun q => by
                  by_cases hq : a < z8 ∨ (a = z8 ∧ b < z9)
                  · have := e7 hq; omega
                  · omega⟩
                refine lv_iinc (v := zi (z9 + 1)) (lv' := [(9, .int (zi ((z9 + 1)))), (7, .int (zi (z9))), (6, .int (zi (z8))), (11, .int (zi ((((z8 + z9) - z6) - z7)))), (10, .int (zi (0))), (1, .int (zi (m))), (3, .int (zi (w))), (4, .int (zi (z4))), (5, .int (zi (z5))), (8, .int (zi (z8)))]) (pc := 176) hx hb dX4_plan_176 hl (k := 9) rfl (zi_add _ _) (by decide) rfl (fun ls hl => ?_)
                refine lv_goto (tgt := 104) (pc := 179) hx hb dX4_plan_179 (by decide) ?_
                exact ih  _ _ _ (by omega) (hnew.1) (hnew.2) ls (lv_sub hl [5, 6, 7, 8, 2, 1, 9, 0] rfl)
      · refine z_iconst (pc := 126) hx hb dX4_plan_126 ?_
        refine lv_goto (tgt := 131) (pc := 127) hx hb dX4_plan_127 (by decide) ?_
        refine lv_istore (lv' := [(10, .int (zi (1))), (1, .int (zi (m))), (3, .int (zi (w))), (4, .int (zi (z4))), (5, .int (zi (z5))), (6, .int (zi (z6))), (7, .int (zi (z7))), (8, .int (zi (z8))), (9, .int (zi (z9)))]) (pc := 131) hx hb dX4_plan_131 hl (by decide) rfl (fun ls hl => ?_)
        refine lv_iload (pc := 133) hx hb dX4_plan_133 (lv_at hl 7 rfl) ?_
        refine lv_iload (pc := 135) hx hb dX4_plan_135 (lv_at hl 8 rfl) ?_
        refine z_iadd (pc := 137) hx hb dX4_plan_137 ?_
        refine lv_iload (pc := 138) hx hb dX4_plan_138 (lv_at hl 5 rfl) ?_
        refine z_isub (pc := 140) hx hb dX4_plan_140 ?_
        refine lv_iload (pc := 141) hx hb dX4_plan_141 (lv_at hl 6 rfl) ?_
        refine z_isub (pc := 143) hx hb dX4_plan_143 ?_
        refine lv_istore (lv' := [(11, .int (zi ((((z8 + z9) - z6) - z7)))), (10, .int (zi (1))), (1, .int (zi (m))), (3, .int (zi (w))), (4, .int (zi (z4))), (5, .int (zi (z5))), (6, .int (zi (z6))), (7, .int (zi (z7))), (8, .int (zi (z8))), (9, .int (zi (z9)))]) (pc := 144) hx hb dX4_plan_144 hl (by decide) rfl (fun ls hl => ?_)
        refine lv_iload (pc := 146) hx hb dX4_plan_146 (lv_at hl 1 rfl) ?_
        refine z_if_eq (tgt := 176) (pc := 148) hx hb dX4_plan_148 (by decide) (by omega) (fun c_8 => ?_) (fun c_8 => ?_)
        · have hnew : ((0 ≤ z6 ∧ z6 ≤ 12) ∧ (0 ≤ z7 ∧ z7 ≤ 12) ∧ feas (cuZ pr hc h) (chZ pr hc h (sp 2)) m z6 z7) ∧ (a < z8 ∨ (a = z8 ∧ b < z9 + 1) → z6 = a ∧ z7 = b) := ⟨e6, fun q => by
            by_cases hq : a < z8 ∨ (a = z8 ∧ b < z9)
            · exact e7 hq
            · have ea : z8 = a := by omega
              have eb : z9 = b := by omega
              have hfe2 : z8 * z4 + z9 * z5 ≤ m := by rw [ea, eb, e45.1, e45.2]; exact hfe
              omega⟩
          refine lv_iinc (v := zi (z9 + 1)) (lv' := [(9, .int (zi ((z9 + 1)))), (11, .int (zi ((((z8 + z9) - z6) - z7)))), (10, .int (zi (1))), (1, .int (zi (m))), (3, .int (zi (w))), (4, .int (zi (z4))), (5, .int (zi (z5))), (6, .int (zi (z6))), (7, .int (zi (z7))), (8, .int (zi (z8)))]) (pc := 176) hx hb dX4_plan_176 hl (k := 9) rfl (zi_add _ _) (by decide) rfl (fun ls hl => ?_)
          refine lv_goto (tgt := 104) (pc := 179) hx hb dX4_plan_179 (by decide) ?_
          exact ih  _ _ _ (by omega) (hnew.1) (hnew.2) ls (lv_sub hl [3, 4, 5, 6, 7, 8, 9, 0] rfl)
        · refine lv_iload (pc := 151) hx hb dX4_plan_151 (lv_at hl 0 rfl) ?_
          refine z_if_gt (tgt := 168) (pc := 153) hx hb dX4_plan_153 (by decide) (by omega) (fun c_9 => ?_) (fun c_9 => ?_)
          · refine lv_iload (pc := 168) hx hb dX4_plan_168 (lv_at hl 8 rfl) ?_
            refine lv_istore (lv' := [(6, .int (zi (z8))), (11, .int (zi ((((z8 + z9) - z6) - z7)))), (10, .int (zi (1))), (1, .int (zi (m))), (3, .int (zi (w))), (4, .int (zi (z4))), (5, .int (zi (z5))), (7, .int (zi (z7))), (8, .int (zi (z8))), (9, .int (zi (z9)))]) (pc := 170) hx hb dX4_plan_170 hl (by decide) rfl (fun ls hl => ?_)
            refine lv_iload (pc := 172) hx hb dX4_plan_172 (lv_at hl 9 rfl) ?_
            refine lv_istore (lv' := [(7, .int (zi (z9))), (6, .int (zi (z8))), (11, .int (zi ((((z8 + z9) - z6) - z7)))), (10, .int (zi (1))), (1, .int (zi (m))), (3, .int (zi (w))), (4, .int (zi (z4))), (5, .int (zi (z5))), (8, .int (zi (z8))), (9, .int (zi (z9)))]) (pc := 174) hx hb dX4_plan_174 hl (by decide) rfl (fun ls hl => ?_)
            have hf : feas (cuZ pr hc h) (chZ pr hc h (sp 2)) m z8 z9 := by first | (exfalso; omega) | (rw [feas, ← e45.1, ← e45.2]; omega)
            have hq8 := hbst z8 z9 (by omega) (by omega) hf
            have hnew : ((0 ≤ z8 ∧ z8 ≤ 12) ∧ (0 ≤ z9 ∧ z9 ≤ 12) ∧ feas (cuZ pr hc h) (chZ pr hc h (sp 2)) m z8 z9) ∧ (a < z8 ∨ (a = z8 ∧ b < z9 + 1) → z8 = a ∧ z9 = b) := ⟨⟨by omega, by omega, hf⟩, fun q => by
              by_cases hq : a < z8 ∨ (a = z8 ∧ b < z9)
              · have := e7 hq; omega
              · omega⟩
            refine lv_iinc (v := zi (z9 + 1)) (lv' := [(9, .int (zi ((z9 + 1)))), (7, .int (zi (z9))), (6, .int (zi (z8))), (11, .int (zi ((((z8 + z9) - z6) - z7)))), (10, .int (zi (1))), (1, .int (zi (m))), (3, .int (zi (w))), (4, .int (zi (z4))), (5, .int (zi (z5))), (8, .int (zi (z8)))]) (pc := 176) hx hb dX4_plan_176 hl (k := 9) rfl (zi_add _ _) (by decide) rfl (fun ls hl => ?_)
            refine lv_goto (tgt := 104) (pc := 179) hx hb dX4_plan_179 (by decide) ?_
            exact ih  _ _ _ (by omega) (hnew.1) (hnew.2) ls (lv_sub hl [5, 6, 7, 8, 2, 1, 9, 0] rfl)
          · refine lv_iload (pc := 156) hx hb dX4_plan_156 (lv_at hl 0 rfl) ?_
            refine z_if_ne (tgt := 176) (pc := 158) hx hb dX4_plan_158 (by decide) (by omega) (fun c_10 => ?_) (fun c_10 => ?_)
            · have hnew : ((0 ≤ z6 ∧ z6 ≤ 12) ∧ (0 ≤ z7 ∧ z7 ≤ 12) ∧ feas (cuZ pr hc h) (chZ pr hc h (sp 2)) m z6 z7) ∧ (a < z8 ∨ (a = z8 ∧ b < z9 + 1) → z6 = a ∧ z7 = b) := ⟨e6, fun q => by
                by_cases hq : a < z8 ∨ (a = z8 ∧ b < z9)
                · exact e7 hq
                · have ea : z8 = a := by omega
                  have eb : z9 = b := by omega
                  have hfe2 : z8 * z4 + z9 * z5 ≤ m := by rw [ea, eb, e45.1, e45.2]; exact hfe
                  omega⟩
              refine lv_iinc (v := zi (z9 + 1)) (lv' := [(9, .int (zi ((z9 + 1)))), (11, .int (zi ((((z8 + z9) - z6) - z7)))), (10, .int (zi (1))), (1, .int (zi (m))), (3, .int (zi (w))), (4, .int (zi (z4))), (5, .int (zi (z5))), (6, .int (zi (z6))), (7, .int (zi (z7))), (8, .int (zi (z8)))]) (pc := 176) hx hb dX4_plan_176 hl (k := 9) rfl (zi_add _ _) (by decide) rfl (fun ls hl => ?_)
              refine lv_goto (tgt := 104) (pc := 179) hx hb dX4_plan_179 (by decide) ?_
              exact ih  _ _ _ (by omega) (hnew.1) (hnew.2) ls (lv_sub hl [3, 4, 5, 6, 7, 8, 9, 0] rfl)
            · refine lv_iload (pc := 161) hx hb dX4_plan_161 (lv_at hl 8 rfl) ?_
              refine lv_iload (pc := 163) hx hb dX4_plan_163 (lv_at hl 6 rfl) ?_
              refine z_icmp_le (tgt := 176) (pc := 165) hx hb dX4_plan_165 (by decide) (by omega) (by omega) (fun c_11 => ?_) (fun c_11 => ?_)
              · have hnew : ((0 ≤ z6 ∧ z6 ≤ 12) ∧ (0 ≤ z7 ∧ z7 ≤ 12) ∧ feas (cuZ pr hc h) (chZ pr hc h (sp 2)) m z6 z7) ∧ (a < z8 ∨ (a = z8 ∧ b < z9 + 1) → z6 = a ∧ z7 = b) := ⟨e6, fun q => by
                  by_cases hq : a < z8 ∨ (a = z8 ∧ b < z9)
                  · exact e7 hq
                  · have ea : z8 = a := by omega
                    have eb : z9 = b := by omega
                    have hfe2 : z8 * z4 + z9 * z5 ≤ m := by rw [ea, eb, e45.1, e45.2]; exact hfe
                    omega⟩
                refine lv_iinc (v := zi (z9 + 1)) (lv' := [(9, .int (zi ((z9 + 1)))), (11, .int (zi ((((z8 + z9) - z6) - z7)))), (10, .int (zi (1))), (1, .int (zi (m))), (3, .int (zi (w))), (4, .int (zi (z4))), (5, .int (zi (z5))), (6, .int (zi (z6))), (7, .int (zi (z7))), (8, .int (zi (z8)))]) (pc := 176) hx hb dX4_plan_176 hl (k := 9) rfl (zi_add _ _) (by decide) rfl (fun ls hl => ?_)
                refine lv_goto (tgt := 104) (pc := 179) hx hb dX4_plan_179 (by decide) ?_
                exact ih  _ _ _ (by omega) (hnew.1) (hnew.2) ls (lv_sub hl [3, 4, 5, 6, 7, 8, 9, 0] rfl)
              · refine lv_iload (pc := 168) hx hb dX4_plan_168 (lv_at hl 8 rfl) ?_
                refine lv_istore (lv' := [(6, .int (zi (z8))), (11, .int (zi ((((z8 + z9) - z6) - z7)))), (10, .int (zi (1))), (1, .int (zi (m))), (3, .int (zi (w))), (4, .int (zi (z4))), (5, .int (zi (z5))), (7, .int (zi (z7))), (8, .int (zi (z8))), (9, .int (zi (z9)))]) (pc := 170) hx hb dX4_plan_170 hl (by decide) rfl (fun ls hl => ?_)
                refine lv_iload (pc := 172) hx hb dX4_plan_172 (lv_at hl 9 rfl) ?_
                refine lv_istore (lv' := [(7, .int (zi (z9))), (6, .int (zi (z8))), (11, .int (zi ((((z8 + z9) - z6) - z7)))), (10, .int (zi (1))), (1, .int (zi (m))), (3, .int (zi (w))), (4, .int (zi (z4))), (5, .int (zi (z5))), (8, .int (zi (z8))), (9, .int (zi (z9)))]) (pc := 174) hx hb dX4_plan_174 hl (by decide) rfl (fun ls hl => ?_)
                have hf : feas (cuZ pr hc h) (chZ pr hc h (sp 2)) m z8 z9 := by first | (exfalso; omega) | (rw [feas, ← e45.1, ← e45.2]; omega)
                have hq8 := hbst z8 z9 (by omega) (by omega) hf
                have hnew : ((0 ≤ z8 ∧ z8 ≤ 12) ∧ (0 ≤ z9 ∧ z9 ≤ 12) ∧ feas (cuZ pr hc h) (chZ pr hc h (sp 2)) m z8 z9) ∧ (a < z8 ∨ (a = z8 ∧ b < z9 + 1) → z8 = a ∧ z9 = b) := ⟨⟨by omega, by omega, hf⟩, fun q => by
                  by_cases hq : a < z8 ∨ (a = z8 ∧ b < z9)
                  · have := e7 hq; omega
                  · omega⟩
                refine lv_iinc (v := zi (z9 + 1)) (lv' := [(9, .int (zi ((z9 + 1)))), (7, .int (zi (z9))), (6, .int (zi (z8))), (11, .int (zi ((((z8 + z9) - z6) - z7)))), (10, .int (zi (1))), (1, .int (zi (m))), (3, .int (zi (w))), (4, .int (zi (z4))), (5, .int (zi (z5))), (8, .int (zi (z8)))]) (pc := 176) hx hb dX4_plan_176 hl (k := 9) rfl (zi_add _ _) (by decide) rfl (fun ls hl => ?_)
                refine lv_goto (tgt := 104) (pc := 179) hx hb dX4_plan_179 (by decide) ?_
                exact ih  _ _ _ (by omega) (hnew.1) (hnew.2) ls (lv_sub hl [5, 6, 7, 8, 2, 1, 9, 0] rfl)
  have outer : ∀ u : Nat, u ≤ 13 → ∀ (z4 z5 z6 z7 z8 : Int), (z4 = cuZ pr hc h ∧ z5 = chZ pr hc h (sp 2)) → (z8 = (u : Int)) → (((0 ≤ z6 ∧ z6 ≤ 12) ∧ (0 ≤ z7 ∧ z7 ≤ 12) ∧ feas (cuZ pr hc h) (chZ pr hc h (sp 2)) m z6 z7)) → (a < z8 → z6 = a ∧ z7 = b) → ((0 ≤ m ∧ m ≤ 10000) ∧ (1 ≤ h ∧ h ≤ 500) ∧ (0 ≤ w ∧ w ≤ 2)) → ∀ ls : Array Slot, lv_has ls 12 [(1, .int (zi (m))), (3, .int (zi (w))), (4, .int (zi (z4))), (5, .int (zi (z5))), (6, .int (zi (z6))), (7, .int (zi (z7))), (8, .int (zi (z8)))] → W p l e (RM 1 25) s mm args below meth c s.heap [] 0 0 (MQ below (QR (.int (zi (planV pr hc m h w (sp 2) a b))) s.heap) args s 0 0 (fun _ => False)) (F0 mm 94 ls []) := by
    refine lp_up (fun u => ∀ (z4 z5 z6 z7 z8 : Int), (z4 = cuZ pr hc h ∧ z5 = chZ pr hc h (sp 2)) → (z8 = (u : Int)) → (((0 ≤ z6 ∧ z6 ≤ 12) ∧ (0 ≤ z7 ∧ z7 ≤ 12) ∧ feas (cuZ pr hc h) (chZ pr hc h (sp 2)) m z6 z7)) → (a < z8 → z6 = a ∧ z7 = b) → ((0 ≤ m ∧ m ≤ 10000) ∧ (1 ≤ h ∧ h ≤ 500) ∧ (0 ≤ w ∧ w ≤ 2)) → ∀ ls : Array Slot, lv_has ls 12 [(1, .int (zi (m))), (3, .int (zi (w))), (4, .int (zi (z4))), (5, .int (zi (z5))), (6, .int (zi (z6))), (7, .int (zi (z7))), (8, .int (zi (z8)))] → W p l e (RM 1 25) s mm args below meth c s.heap [] 0 0 (MQ below (QR (.int (zi (planV pr hc m h w (sp 2) a b))) s.heap) args s 0 0 (fun _ => False)) (F0 mm 94 ls [])) (13) ?_ ?_
    · intro z4 z5 z6 z7 z8 e45 e8 e6 e7 hok ls hl
      obtain ⟨hba, hbb, hfe, hbst⟩ := hbest hok
      refine lv_iload (pc := 94) hx hb dX4_plan_94 (lv_at hl 6 rfl) ?_
      refine z_bipush (pc := 96) hx hb dX4_plan_96 (by decide) ?_
      refine z_icmp_gt (tgt := 188) (pc := 98) hx hb dX4_plan_98 (by decide) (by omega) (by omega) (fun c_12 => ?_) (fun c_12 => absurd c_12 (by omega))
      refine lv_iload_n (pc := 188) hx hb dX4_plan_188 rfl (lv_at hl 1 rfl) ?_
      refine z_if_ne (tgt := 197) (pc := 189) hx hb dX4_plan_189 (by decide) (by omega) (fun c_13 => ?_) (fun c_13 => ?_)
      · refine lv_iload_n (pc := 197) hx hb dX4_plan_197 rfl (lv_at hl 1 rfl) ?_
        refine z_iconst (pc := 198) hx hb dX4_plan_198 ?_
        refine z_icmp_ne (tgt := 207) (pc := 199) hx hb dX4_plan_199 (by decide) (by omega) (by omega) (fun c_14 => ?_) (fun c_14 => ?_)
        · refine lv_iload (pc := 207) hx hb dX4_plan_207 (lv_at hl 4 rfl) ?_
          refine lv_iload (pc := 209) hx hb dX4_plan_209 (lv_at hl 2 rfl) ?_
          refine z_imul (pc := 211) hx hb dX4_plan_211 ?_
          refine lv_iload (pc := 212) hx hb dX4_plan_212 (lv_at hl 5 rfl) ?_
          refine lv_iload (pc := 214) hx hb dX4_plan_214 (lv_at hl 3 rfl) ?_
          refine z_imul (pc := 216) hx hb dX4_plan_216 ?_
          refine z_iadd (pc := 217) hx hb dX4_plan_217 ?_
          exact rd_iret hx hb hrt hlk dX4_plan_218 (by rw [planV, if_pos hok, if_neg (by omega), if_neg (by omega), (e7 (by omega)).1, (e7 (by omega)).2, e45.1, e45.2])
        · refine lv_iload (pc := 202) hx hb dX4_plan_202 (lv_at hl 5 rfl) ?_
          refine lv_goto (tgt := 218) (pc := 204) hx hb dX4_plan_204 (by decide) ?_
          exact rd_iret hx hb hrt hlk dX4_plan_218 (by rw [planV, if_pos hok, if_neg (by omega), if_pos (by omega), (e7 (by omega)).2])
      · refine lv_iload (pc := 192) hx hb dX4_plan_192 (lv_at hl 4 rfl) ?_
        refine lv_goto (tgt := 218) (pc := 194) hx hb dX4_plan_194 (by decide) ?_
        exact rd_iret hx hb hrt hlk dX4_plan_218 (by rw [planV, if_pos hok, if_pos (by omega), (e7 (by omega)).1])
    · intro u hu ih z4 z5 z6 z7 z8 e45 e8 e6 e7 hok ls hl
      obtain ⟨hba, hbb, hfe, hbst⟩ := hbest hok
      refine lv_iload (pc := 94) hx hb dX4_plan_94 (lv_at hl 6 rfl) ?_
      refine z_bipush (pc := 96) hx hb dX4_plan_96 (by decide) ?_
      refine z_icmp_gt (tgt := 188) (pc := 98) hx hb dX4_plan_98 (by decide) (by omega) (by omega) (fun c_15 => absurd c_15 (by omega)) (fun c_15 => ?_)
      refine z_iconst (pc := 101) hx hb dX4_plan_101 ?_
      refine lv_istore (lv' := [(9, .int (zi (0))), (1, .int (zi (m))), (3, .int (zi (w))), (4, .int (zi (z4))), (5, .int (zi (z5))), (6, .int (zi (z6))), (7, .int (zi (z7))), (8, .int (zi (z8)))]) (pc := 102) hx hb dX4_plan_102 hl (by decide) rfl (fun ls hl => ?_)
      refine inner _ _ _ e45 (by omega) hok ?_ 0 (by omega) _ _ _ (by rfl) e6 (fun q => e7 (by omega)) ls (lv_sub hl [1, 2, 3, 4, 5, 6, 7, 0] rfl)
      intro z6 z7 q6 q7 ls hl
      refine lv_iinc (v := zi (z8 + 1)) (lv' := [(8, .int (zi ((z8 + 1)))), (1, .int (zi (m))), (3, .int (zi (w))), (4, .int (zi (z4))), (5, .int (zi (z5))), (6, .int (zi (z6))), (7, .int (zi (z7)))]) (pc := 182) hx hb dX4_plan_182 hl (k := 6) rfl (zi_add _ _) (by decide) rfl (fun ls hl => ?_)
      refine lv_goto (tgt := 94) (pc := 185) hx hb dX4_plan_185 (by decide) ?_
      exact ih  _ _ _ _ _ (e45) (by omega) (q6) (q7) (hok) ls (lv_sub hl [1, 2, 3, 4, 5, 6, 0] rfl)
  refine lv_iload_n (pc := 0) hx hb dX4_plan_0 rfl (lv_at hl 1 rfl) ?_
  refine z_i2l (pc := 1) hx hb (by omega) dX4_plan_1 ?_
  refine z_lconst0 (pc := 2) hx hb dX4_plan_2 ?_
  refine z_ldc2 (pc := 3) hx hb (10000) hown (hT _ tw_583) (by decide) dX4_plan_3 ?_
  refine rd_S (pc := 6) hx hb hml hown hT hK (c_X4_in D cI cJ l (m) (by omega) (0) (by omega) (10000) (by omega)) ca_X4_in tw_400 va_Pnil ⟨Nat.le_of_ble_eq_true rfl, Nat.le_of_ble_eq_true rfl⟩ rfl hl.1 (As := [.long (zj (m)), .long (zj (0)), .long (zj (10000))]) (rest := []) rfl (Nat.le_of_ble_eq_true rfl) ⟨Nat.le_of_ble_eq_true rfl, Nat.le_of_ble_eq_true rfl⟩ dX4_plan_6 ?_
  refine z_ifB_eq (tgt := 36) (pc := 9) hx hb dX4_plan_9 (by decide) (fun c_16 => ?_) (fun c_16 => ?_)
  · refine z_sipush (pc := 36) hx hb dX4_plan_36 (by decide) ?_
    exact rd_iret hx hb hrt hlk dX4_plan_39 (by rw [planV, if_neg (by omega)])
  · refine lv_iload_n (pc := 12) hx hb dX4_plan_12 rfl (lv_at hl 2 rfl) ?_
    refine z_i2l (pc := 13) hx hb (by omega) dX4_plan_13 ?_
    refine z_lconst1 (pc := 14) hx hb dX4_plan_14 ?_
    refine z_ldc2 (pc := 15) hx hb (500) hown (hT _ tw_403) (by decide) dX4_plan_15 ?_
    refine rd_S (pc := 18) hx hb hml hown hT hK (c_X4_in D cI cJ l (h) (by omega) (1) (by omega) (500) (by omega)) ca_X4_in tw_400 va_Pnil ⟨Nat.le_of_ble_eq_true rfl, Nat.le_of_ble_eq_true rfl⟩ rfl hl.1 (As := [.long (zj (h)), .long (zj (1)), .long (zj (500))]) (rest := []) rfl (Nat.le_of_ble_eq_true rfl) ⟨Nat.le_of_ble_eq_true rfl, Nat.le_of_ble_eq_true rfl⟩ dX4_plan_18 ?_
    refine z_ifB_eq (tgt := 36) (pc := 21) hx hb dX4_plan_21 (by decide) (fun c_17 => ?_) (fun c_17 => ?_)
    · refine z_sipush (pc := 36) hx hb dX4_plan_36 (by decide) ?_
      exact rd_iret hx hb hrt hlk dX4_plan_39 (by rw [planV, if_neg (by omega)])
    · refine lv_iload_n (pc := 24) hx hb dX4_plan_24 rfl (lv_at hl 3 rfl) ?_
      refine z_i2l (pc := 25) hx hb (by omega) dX4_plan_25 ?_
      refine z_lconst0 (pc := 26) hx hb dX4_plan_26 ?_
      refine z_ldc2 (pc := 27) hx hb (2) hown (hT _ tw_408) (by decide) dX4_plan_27 ?_
      refine rd_S (pc := 30) hx hb hml hown hT hK (c_X4_in D cI cJ l (w) (by omega) (0) (by omega) (2) (by omega)) ca_X4_in tw_400 va_Pnil ⟨Nat.le_of_ble_eq_true rfl, Nat.le_of_ble_eq_true rfl⟩ rfl hl.1 (As := [.long (zj (w)), .long (zj (0)), .long (zj (2))]) (rest := []) rfl (Nat.le_of_ble_eq_true rfl) ⟨Nat.le_of_ble_eq_true rfl, Nat.le_of_ble_eq_true rfl⟩ dX4_plan_30 ?_
      refine z_ifB_ne (tgt := 40) (pc := 33) hx hb dX4_plan_33 (by decide) (fun c_18 => ?_) (fun c_18 => ?_)
      · have hok : (0 ≤ m ∧ m ≤ 10000) ∧ (1 ≤ h ∧ h ≤ 500) ∧ (0 ≤ w ∧ w ≤ 2) := by omega
        have hcr := cost_rng hpr hhc hok.2.1 (hsp 2 (by omega))
        obtain ⟨hba, hbb, hfe, hbst⟩ := hbest hok
        have h45 : (pr + (h * hc)) = cuZ pr hc h ∧ (pr + ((((10 * h) + (sp 2)) - 1) / (sp 2)) * hc) = chZ pr hc h (sp 2) := ⟨rfl, by unfold chZ; rw [Int.mul_comm 10 h]⟩
        refine lv_aload_n (pc := 40) hx hb dX4_plan_40 rfl (lv_at hl 0 rfl) ?_
        refine va_get (D := D) (cl := vwCl) (ci := 4) (v := .int (zi (pr))) (C := RX4) (T := TX4) (N := 17) (pc := 41) hx hb hT inT4 hown hK.1 hP 0 rfl rfl 8 (by decide) (hT _ tw_345) (fun _ h9 => h9) rfl dX4_plan_41 ?_
        refine lv_iload_n (pc := 44) hx hb dX4_plan_44 rfl (lv_at hl 2 rfl) ?_
        refine lv_aload_n (pc := 45) hx hb dX4_plan_45 rfl (lv_at hl 0 rfl) ?_
        refine va_get (D := D) (cl := vwCl) (ci := 4) (v := .int (zi (hc))) (C := RX4) (T := TX4) (N := 17) (pc := 46) hx hb hT inT4 hown hK.1 hP 0 rfl rfl 9 (by decide) (hT _ tw_346) (fun _ h9 => h9) rfl dX4_plan_46 ?_
        refine z_imul (pc := 49) hx hb dX4_plan_49 ?_
        refine z_iadd (pc := 50) hx hb dX4_plan_50 ?_
        refine lv_istore (lv' := [(4, .int (zi ((pr + (h * hc))))), (0, .ref (ad 0)), (1, .int (zi (m))), (2, .int (zi (h))), (3, .int (zi (w)))]) (pc := 51) hx hb dX4_plan_51 hl (by decide) rfl (fun ls hl => ?_)
        refine lv_aload_n (pc := 53) hx hb dX4_plan_53 rfl (lv_at hl 1 rfl) ?_
        refine va_get (D := D) (cl := vwCl) (ci := 4) (v := .int (zi (pr))) (C := RX4) (T := TX4) (N := 17) (pc := 54) hx hb hT inT4 hown hK.1 hP 0 rfl rfl 8 (by decide) (hT _ tw_345) (fun _ h9 => h9) rfl dX4_plan_54 ?_
        refine z_bipush (pc := 57) hx hb dX4_plan_57 (by decide) ?_
        refine lv_iload_n (pc := 59) hx hb dX4_plan_59 rfl (lv_at hl 3 rfl) ?_
        refine z_imul (pc := 60) hx hb dX4_plan_60 ?_
        refine lv_aload_n (pc := 61) hx hb dX4_plan_61 rfl (lv_at hl 1 rfl) ?_
        refine va_get (D := D) (cl := vwCl) (ci := 4) (v := .ref (ad 4)) (C := RX4) (T := TX4) (N := 17) (pc := 62) hx hb hT inT4 hown hK.1 hP 0 rfl rfl 4 (by decide) (hT _ tw_341) (fun _ h9 => h9) rfl dX4_plan_62 ?_
        refine z_iconst (pc := 65) hx hb dX4_plan_65 ?_
        refine z_iald (pc := 66) hx hb hK hP 4 (2) (f := sp) rfl (by omega) (by omega) (by omega) dX4_plan_66 ?_
        have r_19 := hsp (2) (by omega)
        refine z_iadd (pc := 67) hx hb dX4_plan_67 ?_
        refine z_iconst (pc := 68) hx hb dX4_plan_68 ?_
        refine z_isub (pc := 69) hx hb dX4_plan_69 ?_
        refine lv_aload_n (pc := 70) hx hb dX4_plan_70 rfl (lv_at hl 1 rfl) ?_
        refine va_get (D := D) (cl := vwCl) (ci := 4) (v := .ref (ad 4)) (C := RX4) (T := TX4) (N := 17) (pc := 71) hx hb hT inT4 hown hK.1 hP 0 rfl rfl 4 (by decide) (hT _ tw_341) (fun _ h9 => h9) rfl dX4_plan_71 ?_
        refine z_iconst (pc := 74) hx hb dX4_plan_74 ?_
        refine z_iald (pc := 75) hx hb hK hP 4 (2) (f := sp) rfl (by omega) (by omega) (by omega) dX4_plan_75 ?_
        have r_20 := hsp (2) (by omega)
        refine z_idiv (pc := 76) hx hb (by omega) dX4_plan_76 ?_
        refine lv_aload_n (pc := 77) hx hb dX4_plan_77 rfl (lv_at hl 1 rfl) ?_
        refine va_get (D := D) (cl := vwCl) (ci := 4) (v := .int (zi (hc))) (C := RX4) (T := TX4) (N := 17) (pc := 78) hx hb hT inT4 hown hK.1 hP 0 rfl rfl 9 (by decide) (hT _ tw_346) (fun _ h9 => h9) rfl dX4_plan_78 ?_
        refine z_imul (pc := 81) hx hb dX4_plan_81 ?_
        refine z_iadd (pc := 82) hx hb dX4_plan_82 ?_
        refine lv_istore (lv' := [(5, .int (zi ((pr + (((((10 * h) + (sp (2))) - 1) / (sp (2))) * hc))))), (4, .int (zi ((pr + (h * hc))))), (0, .ref (ad 0)), (1, .int (zi (m))), (2, .int (zi (h))), (3, .int (zi (w)))]) (pc := 83) hx hb dX4_plan_83 hl (by decide) rfl (fun ls hl => ?_)
        refine z_iconst (pc := 85) hx hb dX4_plan_85 ?_
        refine lv_istore (lv' := [(6, .int (zi (0))), (5, .int (zi ((pr + (((((10 * h) + (sp (2))) - 1) / (sp (2))) * hc))))), (4, .int (zi ((pr + (h * hc))))), (0, .ref (ad 0)), (1, .int (zi (m))), (2, .int (zi (h))), (3, .int (zi (w)))]) (pc := 86) hx hb dX4_plan_86 hl (by decide) rfl (fun ls hl => ?_)
        refine z_iconst (pc := 88) hx hb dX4_plan_88 ?_
        refine lv_istore (lv' := [(7, .int (zi (0))), (6, .int (zi (0))), (5, .int (zi ((pr + (((((10 * h) + (sp (2))) - 1) / (sp (2))) * hc))))), (4, .int (zi ((pr + (h * hc))))), (0, .ref (ad 0)), (1, .int (zi (m))), (2, .int (zi (h))), (3, .int (zi (w)))]) (pc := 89) hx hb dX4_plan_89 hl (by decide) rfl (fun ls hl => ?_)
        refine z_iconst (pc := 91) hx hb dX4_plan_91 ?_
        refine lv_istore (lv' := [(8, .int (zi (0))), (7, .int (zi (0))), (6, .int (zi (0))), (5, .int (zi ((pr + (((((10 * h) + (sp (2))) - 1) / (sp (2))) * hc))))), (4, .int (zi ((pr + (h * hc))))), (0, .ref (ad 0)), (1, .int (zi (m))), (2, .int (zi (h))), (3, .int (zi (w)))]) (pc := 92) hx hb dX4_plan_92 hl (by decide) rfl (fun ls hl => ?_)
        exact outer 0 (by omega) _ _ _ _ _ (h45) (by rfl) (⟨by omega, by omega, by rw [feas, Int.zero_mul, Int.zero_mul]; omega⟩) (fun q => absurd q (by omega)) (hok) ls (lv_sub hl [6, 8, 4, 3, 2, 1, 0] rfl)
      · refine z_sipush (pc := 36) hx hb dX4_plan_36 (by decide) ?_
        exact rd_iret hx hb hrt hlk dX4_plan_39 (by rw [planV, if_neg (by omega)])
