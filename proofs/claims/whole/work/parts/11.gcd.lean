/-- a step of the common divisor's search, u rounds on -/
def GS (a b u : Nat) (z1 z2 : Int) : Prop := ∃ x y : Nat, z1 = (x : Int) ∧ z2 = (y : Int) ∧ Nat.gcd x y = Nat.gcd a b ∧ x ≤ 281474976710656 ∧ y ≤ 281474976710656 ∧ (u = 0 ∨ (y < x ∧ x * y * 2 ^ u ≤ 2 * (281474976710656 * 281474976710656)))
theorem GS_0 {a b : Nat} (h : a ≤ 281474976710656 ∧ b ≤ 281474976710656) : GS a b 0 (a : Int) (b : Int) := ⟨a, b, rfl, rfl, rfl, h.1, h.2, Or.inl rfl⟩
theorem GS_rng {a b u : Nat} {z1 z2 : Int} (h : GS a b u z1 z2) : 0 ≤ z1 ∧ z1 ≤ 281474976710656 ∧ 0 ≤ z2 ∧ z2 ≤ 281474976710656 := by
  obtain ⟨x, y, rfl, rfl, -, hx, hy, -⟩ := h
  omega
theorem GS_step {a b u : Nat} {z1 z2 : Int} (h : GS a b u z1 z2) (hz : ¬ z2 = 0) : GS a b (u + 1) z2 (z1 % z2) := by
  obtain ⟨x, y, rfl, rfl, hg, hx, hy, hm⟩ := h
  have hy0 : 0 < y := by omega
  have hlt : x % y < y := Nat.mod_lt x hy0
  refine ⟨y, x % y, rfl, rfl, ?_, hy, by omega, Or.inr ⟨hlt, ?_⟩⟩
  · rw [← hg, Nat.gcd_comm y, ← Nat.gcd_rec, Nat.gcd_comm]
  · rcases hm with rfl | ⟨hlt2, hm⟩
    · have h1 : y * (x % y) ≤ 281474976710656 * 281474976710656 := Nat.mul_le_mul hy (by omega)
      omega
    · have h2 : 2 * (x % y) ≤ x := by
        have h3 := Nat.div_add_mod x y
        have h4 : 1 ≤ x / y := (Nat.one_le_div_iff hy0).mpr (by omega)
        have h5 : y * 1 ≤ y * (x / y) := Nat.mul_le_mul_left y h4
        omega
      have h6 : y * (x % y) * 2 ^ (u + 1) = (2 * (x % y)) * y * 2 ^ u := by
        rw [Nat.pow_succ, Nat.mul_comm (2 ^ u) 2, ← Nat.mul_assoc]
        congr 1
        rw [Nat.mul_comm y, Nat.mul_comm _ 2, Nat.mul_assoc]
      rw [h6]
      exact Nat.le_trans (Nat.mul_le_mul_right _ (Nat.mul_le_mul_right y h2)) hm
theorem GS_end {a b u : Nat} {z1 z2 : Int} (h : GS a b u z1 z2) (hz : z2 = 0) : z1 = ((Nat.gcd a b : Nat) : Int) := by
  obtain ⟨x, y, rfl, hy, hg, -, -, -⟩ := h
  have e : y = 0 := by omega
  subst e
  rw [← hg, Nat.gcd_zero_right]
theorem GS_100 {a b : Nat} {z1 z2 : Int} (h : GS a b 100 z1 z2) : z2 = 0 := by
  obtain ⟨x, y, rfl, rfl, hg, -, -, hm⟩ := h
  rcases hm with h | ⟨hlt, hm⟩
  · omega
  · rcases Nat.eq_zero_or_pos y with h | h
    · omega
    · exfalso
      have h1 : 1 ≤ x * y := Nat.mul_pos (by omega) h
      have h2 : 1 * 2 ^ 100 ≤ x * y * 2 ^ 100 := Nat.mul_le_mul_right _ h1
      exact absurd (Nat.le_trans h2 hm) (by decide)

set_option maxHeartbeats 4000000 in
set_option maxRecDepth 100000 in
theorem c_X3_sharedFactor (D : va_G) (cI cJ : ClassId) (l : Launch)  (y z : Int) (a b : Nat) (hy : y = (a : Int)) (hz : z = (b : Int)) (hq : a ≤ 281474976710656 ∧ b ≤ 281474976710656) : RD D cI cJ l yX3_sharedFactor cX3_sharedFactor 11 (some .long) 0 0 [.long (zj (y)), .long (zj (z))] [] (.long (zj (((Nat.gcd a b : Nat) : Int)))) := by
  subst hy
  subst hz
  refine RD.of (by decide) (Nat.le_of_ble_eq_true rfl) ?_
  intro p e s m args below meth c hx hb hrt hml hown hT hlk hK hP ls hl
  replace hl : lv_has ls 11 [(0, .long (zj ((a : Int)))), (2, .long (zj ((b : Int))))] := hl
  have loop : ∀ u : Nat, u ≤ 100 → ∀ (z1 z2 z3 : Int), (GS a b u z1 z2) → (z3 = (u : Int)) → ∀ ls : Array Slot, lv_has ls 11 [(4, .long (zj (z1))), (6, .long (zj (z2))), (8, .int (zi (z3)))] → W p l e (RM 0 0) s m args below meth c s.heap [] 0 0 (MQ below (QR (.long (zj (((Nat.gcd a b : Nat) : Int)))) s.heap) args s 0 0 (fun _ => False)) (F0 m 9 ls []) := by
    refine lp_up (fun u => ∀ (z1 z2 z3 : Int), (GS a b u z1 z2) → (z3 = (u : Int)) → ∀ ls : Array Slot, lv_has ls 11 [(4, .long (zj (z1))), (6, .long (zj (z2))), (8, .int (zi (z3)))] → W p l e (RM 0 0) s m args below meth c s.heap [] 0 0 (MQ below (QR (.long (zj (((Nat.gcd a b : Nat) : Int)))) s.heap) args s 0 0 (fun _ => False)) (F0 m 9 ls [])) (100) ?_ ?_
    · intro z1 z2 z3 e1 e2 ls hl
      have hg := GS_rng e1
      refine lv_iload (pc := 9) hx hb dX3_sharedFactor_9 (lv_at hl 2 rfl) ?_
      refine z_bipush (pc := 11) hx hb dX3_sharedFactor_11 (by decide) ?_
      refine z_icmp_ge (tgt := 44) (pc := 13) hx hb dX3_sharedFactor_13 (by decide) (by omega) (by omega) (fun c_1 => ?_) (fun c_1 => absurd c_1 (by omega))
      refine lv_lload (pc := 44) hx hb dX3_sharedFactor_44 (lv_at hl 0 rfl) ?_
      exact rd_lret hx hb hrt hlk dX3_sharedFactor_46 (by rw [GS_end e1 (by first | assumption | exact GS_100 e1)])
    · intro u hu ih z1 z2 z3 e1 e2 ls hl
      have hg := GS_rng e1
      refine lv_iload (pc := 9) hx hb dX3_sharedFactor_9 (lv_at hl 2 rfl) ?_
      refine z_bipush (pc := 11) hx hb dX3_sharedFactor_11 (by decide) ?_
      refine z_icmp_ge (tgt := 44) (pc := 13) hx hb dX3_sharedFactor_13 (by decide) (by omega) (by omega) (fun c_2 => absurd c_2 (by omega)) (fun c_2 => ?_)
      refine lv_lload (pc := 16) hx hb dX3_sharedFactor_16 (lv_at hl 1 rfl) ?_
      refine z_lconst0 (pc := 18) hx hb dX3_sharedFactor_18 ?_
      refine z_lcmp_eq (tgt := 44) (pc := 19) hx hb dX3_sharedFactor_19 dX3_sharedFactor_20 (by decide) (by omega) (by omega) (fun c_3 => ?_) (fun c_3 => ?_)
      · refine lv_lload (pc := 44) hx hb dX3_sharedFactor_44 (lv_at hl 0 rfl) ?_
        exact rd_lret hx hb hrt hlk dX3_sharedFactor_46 (by rw [GS_end e1 (by first | assumption | exact GS_100 e1)])
      · refine lv_lload (pc := 23) hx hb dX3_sharedFactor_23 (lv_at hl 0 rfl) ?_
        refine lv_lload (pc := 25) hx hb dX3_sharedFactor_25 (lv_at hl 1 rfl) ?_
        refine z_lrem (pc := 27) hx hb (by omega) dX3_sharedFactor_27 ?_
        refine lv_lstore (lv' := [(9, .long (zj ((z1 % z2)))), (4, .long (zj (z1))), (6, .long (zj (z2))), (8, .int (zi (z3)))]) (pc := 28) hx hb dX3_sharedFactor_28 hl (by decide) rfl (fun ls hl => ?_)
        refine lv_lload (pc := 30) hx hb dX3_sharedFactor_30 (lv_at hl 2 rfl) ?_
        refine lv_lstore (lv' := [(4, .long (zj (z2))), (9, .long (zj ((z1 % z2)))), (6, .long (zj (z2))), (8, .int (zi (z3)))]) (pc := 32) hx hb dX3_sharedFactor_32 hl (by decide) rfl (fun ls hl => ?_)
        refine lv_lload (pc := 34) hx hb dX3_sharedFactor_34 (lv_at hl 1 rfl) ?_
        refine lv_lstore (lv' := [(6, .long (zj ((z1 % z2)))), (4, .long (zj (z2))), (9, .long (zj ((z1 % z2)))), (8, .int (zi (z3)))]) (pc := 36) hx hb dX3_sharedFactor_36 hl (by decide) rfl (fun ls hl => ?_)
        refine lv_iinc (v := zi (z3 + 1)) (lv' := [(8, .int (zi ((z3 + 1)))), (6, .long (zj ((z1 % z2)))), (4, .long (zj (z2))), (9, .long (zj ((z1 % z2))))]) (pc := 38) hx hb dX3_sharedFactor_38 hl (k := 3) rfl (zi_add _ _) (by decide) rfl (fun ls hl => ?_)
        refine lv_goto (tgt := 9) (pc := 41) hx hb dX3_sharedFactor_41 (by decide) ?_
        exact ih  _ _ _ (GS_step e1 c_3) (by rw [e2]; rfl) ls (lv_sub hl [2, 1, 0] rfl)
  refine lv_lload_n (pc := 0) hx hb dX3_sharedFactor_0 rfl (lv_at hl 0 rfl) ?_
  refine lv_lstore (lv' := [(4, .long (zj ((a : Int)))), (0, .long (zj ((a : Int)))), (2, .long (zj ((b : Int))))]) (pc := 1) hx hb dX3_sharedFactor_1 hl (by decide) rfl (fun ls hl => ?_)
  refine lv_lload_n (pc := 3) hx hb dX3_sharedFactor_3 rfl (lv_at hl 2 rfl) ?_
  refine lv_lstore (lv' := [(6, .long (zj ((b : Int)))), (4, .long (zj ((a : Int)))), (0, .long (zj ((a : Int)))), (2, .long (zj ((b : Int))))]) (pc := 4) hx hb dX3_sharedFactor_4 hl (by decide) rfl (fun ls hl => ?_)
  refine z_iconst (pc := 6) hx hb dX3_sharedFactor_6 ?_
  refine lv_istore (lv' := [(8, .int (zi (0))), (6, .long (zj ((b : Int)))), (4, .long (zj ((a : Int)))), (0, .long (zj ((a : Int)))), (2, .long (zj ((b : Int))))]) (pc := 7) hx hb dX3_sharedFactor_7 hl (by decide) rfl (fun ls hl => ?_)
  exact loop 0 (by omega) _ _ _ (GS_0 hq) (by rfl) ls (lv_sub hl [2, 1, 0] rfl)

set_option maxHeartbeats 4000000 in
set_option maxRecDepth 100000 in
theorem c_X3_leastTerms (D : va_G) (cI cJ : ClassId) (l : Launch)  (y z w : Int) (a b : Nat) (hy : y = (a : Int)) (hz : z = (b : Int)) (hq : a ≤ 281474976710656 ∧ b ≤ 281474976710656 ∧ 0 < b) (r_w : -2147483648 ≤ w ∧ w ≤ 2147483647) : RD D cI cJ l yX3_leastTerms cX3_leastTerms 9 (some .long) 1 30 [.long (zj (y)), .long (zj (z)), .int (zi (w))] [] (.long (zj (if w = 0 then ((a / Nat.gcd a b : Nat) : Int) else ((b / Nat.gcd a b : Nat) : Int)))) := by
  subst hy
  subst hz
  refine RD.of (by decide) (Nat.le_of_ble_eq_true rfl) ?_
  intro p e s m args below meth c hx hb hrt hml hown hT hlk hK hP ls hl
  replace hl : lv_has ls 9 [(0, .long (zj ((a : Int)))), (2, .long (zj ((b : Int)))), (4, .int (zi (w)))] := hl
  refine lv_lload_n (pc := 0) hx hb dX3_leastTerms_0 rfl (lv_at hl 0 rfl) ?_
  refine lv_lload_n (pc := 1) hx hb dX3_leastTerms_1 rfl (lv_at hl 1 rfl) ?_
  refine rd_S (pc := 2) hx hb hml hown hT hK (c_X3_sharedFactor D cI cJ l ((a : Int)) ((b : Int)) a b (by omega) (by omega) (by omega)) ca_X3_sharedFactor tw_200 va_Pnil ⟨Nat.le_of_ble_eq_true rfl, Nat.le_of_ble_eq_true rfl⟩ rfl hl.1 (As := [.long (zj ((a : Int))), .long (zj ((b : Int)))]) (rest := []) rfl (Nat.le_of_ble_eq_true rfl) ⟨Nat.le_of_ble_eq_true rfl, Nat.le_of_ble_eq_true rfl⟩ dX3_leastTerms_2 ?_
  have hg1 : 0 < Nat.gcd a b := Nat.gcd_pos_of_pos_right a (by omega)
  have hg2 : Nat.gcd a b ≤ b := Nat.gcd_le_right a (by omega)
  refine lv_lstore (lv' := [(5, .long (zj (((Nat.gcd a b : Nat) : Int)))), (0, .long (zj ((a : Int)))), (2, .long (zj ((b : Int)))), (4, .int (zi (w)))]) (pc := 5) hx hb dX3_leastTerms_5 hl (by decide) rfl (fun ls hl => ?_)
  refine lv_iload (pc := 7) hx hb dX3_leastTerms_7 (lv_at hl 3 rfl) ?_
  refine z_if_ne (tgt := 16) (pc := 9) hx hb dX3_leastTerms_9 (by decide) (by omega) (fun c_1 => ?_) (fun c_1 => ?_)
  · refine lv_lload_n (pc := 16) hx hb dX3_leastTerms_16 rfl (lv_at hl 2 rfl) ?_
    refine lv_lstore (lv' := [(7, .long (zj ((b : Int)))), (5, .long (zj (((Nat.gcd a b : Nat) : Int)))), (0, .long (zj ((a : Int)))), (2, .long (zj ((b : Int)))), (4, .int (zi (w)))]) (pc := 17) hx hb dX3_leastTerms_17 hl (by decide) rfl (fun ls hl => ?_)
    refine lv_lload (pc := 19) hx hb dX3_leastTerms_19 (lv_at hl 1 rfl) ?_
    refine z_lconst0 (pc := 21) hx hb dX3_leastTerms_21 ?_
    refine z_lcmp_le (tgt := 34) (pc := 22) hx hb dX3_leastTerms_22 dX3_leastTerms_23 (by decide) (by omega) (by omega) (fun c_2 => absurd c_2 (by omega)) (fun c_2 => ?_)
    refine lv_lload (pc := 26) hx hb dX3_leastTerms_26 (lv_at hl 0 rfl) ?_
    refine lv_lload (pc := 28) hx hb dX3_leastTerms_28 (lv_at hl 1 rfl) ?_
    refine z_ldiv (pc := 30) hx hb (by omega) dX3_leastTerms_30 ?_
    refine lv_goto (tgt := 36) (pc := 31) hx hb dX3_leastTerms_31 (by decide) ?_
    exact rd_lret hx hb hrt hlk dX3_leastTerms_36 (by rw [if_neg c_1]; rfl)
  · refine lv_lload_n (pc := 12) hx hb dX3_leastTerms_12 rfl (lv_at hl 1 rfl) ?_
    refine lv_goto (tgt := 17) (pc := 13) hx hb dX3_leastTerms_13 (by decide) ?_
    refine lv_lstore (lv' := [(7, .long (zj ((a : Int)))), (5, .long (zj (((Nat.gcd a b : Nat) : Int)))), (0, .long (zj ((a : Int)))), (2, .long (zj ((b : Int)))), (4, .int (zi (w)))]) (pc := 17) hx hb dX3_leastTerms_17 hl (by decide) rfl (fun ls hl => ?_)
    refine lv_lload (pc := 19) hx hb dX3_leastTerms_19 (lv_at hl 1 rfl) ?_
    refine z_lconst0 (pc := 21) hx hb dX3_leastTerms_21 ?_
    refine z_lcmp_le (tgt := 34) (pc := 22) hx hb dX3_leastTerms_22 dX3_leastTerms_23 (by decide) (by omega) (by omega) (fun c_3 => absurd c_3 (by omega)) (fun c_3 => ?_)
    refine lv_lload (pc := 26) hx hb dX3_leastTerms_26 (lv_at hl 0 rfl) ?_
    refine lv_lload (pc := 28) hx hb dX3_leastTerms_28 (lv_at hl 1 rfl) ?_
    refine z_ldiv (pc := 30) hx hb (by omega) dX3_leastTerms_30 ?_
    refine lv_goto (tgt := 36) (pc := 31) hx hb dX3_leastTerms_31 (by decide) ?_
    exact rd_lret hx hb hrt hlk dX3_leastTerms_36 (by rw [if_pos c_1]; rfl)
