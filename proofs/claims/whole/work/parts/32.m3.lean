set_option maxHeartbeats 4000000 in
set_option maxRecDepth 100000 in
theorem c_X4_power (D : va_G) (cI cJ : ClassId) (l : Launch)  (b z : Int) (K : Nat) (hz : z = (K : Int)) (hq : K ≤ 12) : RD D cI cJ l yX4_power cX4_power 6 (some .long) 0 0 [.long (zj (b)), .int (zi (z))] [] (.long (zj (b ^ K))) := by
  subst hz
  refine RD.of (by decide) (Nat.le_of_ble_eq_true rfl) ?_
  intro p e s m args below meth c hx hb hrt hml hown hT hlk hK hP ls hl
  replace hl : lv_has ls 6 [(0, .long (zj (b))), (2, .int (zi ((K : Int))))] := hl
  have loop : ∀ u : Nat, u ≤ K → ∀ (z1 z2 : Int), (z1 = b ^ u) → (z2 = (u : Int)) → ∀ ls : Array Slot, lv_has ls 6 [(0, .long (zj (b))), (2, .int (zi ((K : Int)))), (3, .long (zj (z1))), (5, .int (zi (z2)))] → W p l e (RM 0 0) s m args below meth c s.heap [] 0 0 (MQ below (QR (.long (zj (b ^ K))) s.heap) args s 0 0 (fun _ => False)) (F0 m 5 ls []) := by
    refine lp_up (fun u => ∀ (z1 z2 : Int), (z1 = b ^ u) → (z2 = (u : Int)) → ∀ ls : Array Slot, lv_has ls 6 [(0, .long (zj (b))), (2, .int (zi ((K : Int)))), (3, .long (zj (z1))), (5, .int (zi (z2)))] → W p l e (RM 0 0) s m args below meth c s.heap [] 0 0 (MQ below (QR (.long (zj (b ^ K))) s.heap) args s 0 0 (fun _ => False)) (F0 m 5 ls [])) (K) ?_ ?_
    · intro z1 z2 e1 e2 ls hl
      refine lv_iload (pc := 5) hx hb dX4_power_5 (lv_at hl 3 rfl) ?_
      refine lv_iload_n (pc := 7) hx hb dX4_power_7 rfl (lv_at hl 1 rfl) ?_
      refine z_icmp_ge (tgt := 21) (pc := 8) hx hb dX4_power_8 (by decide) (by omega) (by omega) (fun c_1 => ?_) (fun c_1 => absurd c_1 (by omega))
      refine lv_lload_n (pc := 21) hx hb dX4_power_21 rfl (lv_at hl 2 rfl) ?_
      exact rd_lret hx hb hrt hlk dX4_power_22 (by rw [e1])
    · intro u hu ih z1 z2 e1 e2 ls hl
      refine lv_iload (pc := 5) hx hb dX4_power_5 (lv_at hl 3 rfl) ?_
      refine lv_iload_n (pc := 7) hx hb dX4_power_7 rfl (lv_at hl 1 rfl) ?_
      refine z_icmp_ge (tgt := 21) (pc := 8) hx hb dX4_power_8 (by decide) (by omega) (by omega) (fun c_2 => absurd c_2 (by omega)) (fun c_2 => ?_)
      refine lv_lload_n (pc := 11) hx hb dX4_power_11 rfl (lv_at hl 2 rfl) ?_
      refine lv_lload_n (pc := 12) hx hb dX4_power_12 rfl (lv_at hl 0 rfl) ?_
      refine z_lmul (pc := 13) hx hb dX4_power_13 ?_
      refine lv_lstore_n (lv' := [(3, .long (zj ((z1 * b)))), (0, .long (zj (b))), (2, .int (zi ((K : Int)))), (5, .int (zi (z2)))]) (pc := 14) hx hb dX4_power_14 rfl hl (by decide) rfl (fun ls hl => ?_)
      refine lv_iinc (v := zi (z2 + 1)) (lv' := [(5, .int (zi ((z2 + 1)))), (3, .long (zj ((z1 * b)))), (0, .long (zj (b))), (2, .int (zi ((K : Int))))]) (pc := 15) hx hb dX4_power_15 hl (k := 3) rfl (zi_add _ _) (by decide) rfl (fun ls hl => ?_)
      refine lv_goto (tgt := 5) (pc := 18) hx hb dX4_power_18 (by decide) ?_
      exact ih  _ _ (by rw [e1]; exact (Int.pow_succ b u).symm) (by rw [e2]; rfl) ls (lv_sub hl [2, 3, 1, 0] rfl)
  refine z_lconst1 (pc := 0) hx hb dX4_power_0 ?_
  refine lv_lstore_n (lv' := [(3, .long (zj (1))), (0, .long (zj (b))), (2, .int (zi ((K : Int))))]) (pc := 1) hx hb dX4_power_1 rfl hl (by decide) rfl (fun ls hl => ?_)
  refine z_iconst (pc := 2) hx hb dX4_power_2 ?_
  refine lv_istore (lv' := [(5, .int (zi (0))), (3, .long (zj (1))), (0, .long (zj (b))), (2, .int (zi ((K : Int))))]) (pc := 3) hx hb dX4_power_3 hl (by decide) rfl (fun ls hl => ?_)
  exact loop 0 (by omega) _ _ (by rw [Int.pow_zero]) (by rfl) ls (lv_sub hl [2, 3, 1, 0] rfl)

/-- the terms from a to q alone -/
def mskZ (N : Nat) (j : Int) (a q : Nat) (i : Nat) : Int := if a ≤ i ∧ i ≤ q then termZ N j i else 0
theorem sumZ_c {f g : Nat → Int} {a : Nat} : ∀ c, (∀ i, a ≤ i → i < a + c → f i = g i) → sumZ f a c = sumZ g a c
  | 0, _ => rfl
  | c + 1, h => by simp only [sumZ]; rw [sumZ_c c (fun i h1 h2 => h i h1 (by omega)), h (a + c) (by omega) (by omega)]
theorem sumZ_0 {f : Nat → Int} {a : Nat} : ∀ c, (∀ i, a ≤ i → i < a + c → f i = 0) → sumZ f a c = 0
  | 0, _ => rfl
  | c + 1, h => by simp only [sumZ]; rw [sumZ_0 c (fun i h1 h2 => h i h1 (by omega)), h (a + c) (by omega) (by omega)]; rfl
theorem msk_eq {N : Nat} {j : Int} {a q : Nat} (haq : a ≤ q + 1) (hq : q ≤ N) : sumZ (mskZ N j a q) 0 (N + 1) = sumZ (termZ N j) a (q + 1 - a) := by
  have e : N + 1 = a + ((q + 1 - a) + (N - q)) := by omega
  rw [e, sumZ_split, sumZ_split, Nat.zero_add, sumZ_0 a (fun i h1 h2 => by unfold mskZ; rw [if_neg (by omega)]), sumZ_0 (a := a + (q + 1 - a)) (N - q) (fun i h1 h2 => by unfold mskZ; rw [if_neg (by omega)]), sumZ_c (g := termZ N j) (q + 1 - a) (fun i h1 h2 => by unfold mskZ; rw [if_pos (by omega)])]
  omega

set_option maxHeartbeats 4000000 in
set_option maxRecDepth 100000 in
theorem c_X4_chance (D : va_G) (cI cJ : ClassId) (l : Launch)  (y x w z : Int) (N a q j : Nat) (hy : y = (N : Int)) (hx0 : x = (a : Int)) (hw0 : w = (q : Int)) (hz : z = (j : Int)) (hq0 : N ≤ 12 ∧ a ≤ q + 1 ∧ q ≤ N ∧ j ≤ 10) : RD D cI cJ l yX4_chance cX4_chance 9 (some .long) 1 25 [.int (zi (y)), .int (zi (x)), .int (zi (w)), .int (zi (z))] [] (.long (zj (sumZ (termZ N j) a (q + 1 - a)))) := by
  subst hy
  subst hx0
  subst hw0
  subst hz
  refine RD.of (by decide) (Nat.le_of_ble_eq_true rfl) ?_
  intro p e s m args below meth c hx hb hrt hml hown hT hlk hK hP ls hl
  replace hl : lv_has ls 9 [(0, .int (zi ((N : Int)))), (1, .int (zi ((a : Int)))), (2, .int (zi ((q : Int)))), (3, .int (zi ((j : Int))))] := hl
  have loop : ∀ u : Nat, u ≤ (N + 1) → ∀ (z1 z6 z2 : Int), (z1 = sumZ (mskZ N j a q) 0 u) → (z6 = waysZ N u) → (z2 = (u : Int)) → ∀ ls : Array Slot, lv_has ls 9 [(0, .int (zi ((N : Int)))), (1, .int (zi ((a : Int)))), (2, .int (zi ((q : Int)))), (3, .int (zi ((j : Int)))), (4, .long (zj (z1))), (6, .long (zj (z6))), (8, .int (zi (z2)))] → W p l e (RM 1 25) s m args below meth c s.heap [] 0 0 (MQ below (QR (.long (zj (sumZ (termZ N j) a (q + 1 - a)))) s.heap) args s 0 0 (fun _ => False)) (F0 m 9 ls []) := by
    refine lp_up (fun u => ∀ (z1 z6 z2 : Int), (z1 = sumZ (mskZ N j a q) 0 u) → (z6 = waysZ N u) → (z2 = (u : Int)) → ∀ ls : Array Slot, lv_has ls 9 [(0, .int (zi ((N : Int)))), (1, .int (zi ((a : Int)))), (2, .int (zi ((q : Int)))), (3, .int (zi ((j : Int)))), (4, .long (zj (z1))), (6, .long (zj (z6))), (8, .int (zi (z2)))] → W p l e (RM 1 25) s m args below meth c s.heap [] 0 0 (MQ below (QR (.long (zj (sumZ (termZ N j) a (q + 1 - a)))) s.heap) args s 0 0 (fun _ => False)) (F0 m 9 ls [])) ((N + 1)) ?_ ?_
    · intro z1 z6 z2 e1 e6 e2 ls hl
      refine lv_iload (pc := 9) hx hb dX4_chance_9 (lv_at hl 6 rfl) ?_
      refine lv_iload_n (pc := 11) hx hb dX4_chance_11 rfl (lv_at hl 0 rfl) ?_
      refine z_icmp_gt (tgt := 81) (pc := 12) hx hb dX4_chance_12 (by decide) (by omega) (by omega) (fun c_1 => ?_) (fun c_1 => absurd c_1 (by omega))
      refine lv_lload (pc := 81) hx hb dX4_chance_81 (lv_at hl 4 rfl) ?_
      exact rd_lret hx hb hrt hlk dX4_chance_83 (by rw [e1, msk_eq (by omega) (by omega)])
    · intro u hu ih z1 z6 z2 e1 e6 e2 ls hl
      have hw := waysZ_rng (n := N) (k := u) (by omega) (by omega)
      rw [← e6] at hw
      refine lv_iload (pc := 9) hx hb dX4_chance_9 (lv_at hl 6 rfl) ?_
      refine lv_iload_n (pc := 11) hx hb dX4_chance_11 rfl (lv_at hl 0 rfl) ?_
      refine z_icmp_gt (tgt := 81) (pc := 12) hx hb dX4_chance_12 (by decide) (by omega) (by omega) (fun c_2 => absurd c_2 (by omega)) (fun c_2 => ?_)
      refine lv_lload (pc := 15) hx hb dX4_chance_15 (lv_at hl 4 rfl) ?_
      refine lv_iload (pc := 17) hx hb dX4_chance_17 (lv_at hl 6 rfl) ?_
      refine lv_iload_n (pc := 19) hx hb dX4_chance_19 rfl (lv_at hl 1 rfl) ?_
      refine z_icmp_lt (tgt := 55) (pc := 20) hx hb dX4_chance_20 (by decide) (by omega) (by omega) (fun c_3 => ?_) (fun c_3 => ?_)
      · refine z_lconst0 (pc := 55) hx hb dX4_chance_55 ?_
        refine z_ladd (pc := 56) hx hb dX4_chance_56 ?_
        refine lv_lstore (lv' := [(4, .long (zj ((z1 + 0)))), (0, .int (zi ((N : Int)))), (1, .int (zi ((a : Int)))), (2, .int (zi ((q : Int)))), (3, .int (zi ((j : Int)))), (6, .long (zj (z6))), (8, .int (zi (z2)))]) (pc := 57) hx hb dX4_chance_57 hl (by decide) rfl (fun ls hl => ?_)
        refine lv_lload (pc := 59) hx hb dX4_chance_59 (lv_at hl 5 rfl) ?_
        refine lv_iload_n (pc := 61) hx hb dX4_chance_61 rfl (lv_at hl 1 rfl) ?_
        refine lv_iload (pc := 62) hx hb dX4_chance_62 (lv_at hl 6 rfl) ?_
        refine z_isub (pc := 64) hx hb dX4_chance_64 ?_
        refine z_i2l (pc := 65) hx hb (by omega) dX4_chance_65 ?_
        refine z_lmul (pc := 66) hx hb dX4_chance_66 ?_
        refine lv_iload (pc := 67) hx hb dX4_chance_67 (lv_at hl 6 rfl) ?_
        refine z_iconst (pc := 69) hx hb dX4_chance_69 ?_
        refine z_iadd (pc := 70) hx hb dX4_chance_70 ?_
        refine z_i2l (pc := 71) hx hb (by omega) dX4_chance_71 ?_
        refine z_ldiv (pc := 72) hx hb ⟨Int.mul_nonneg (by omega) (by omega), Int.le_trans (Int.mul_le_mul (show z6 ≤ 924 by omega) (show (N : Int) - z2 ≤ 12 by omega) (by omega) (by omega)) (by omega), by omega, by omega⟩ dX4_chance_72 ?_
        refine lv_lstore (lv' := [(6, .long (zj (((z6 * ((N : Int) - z2)) / (z2 + 1))))), (4, .long (zj ((z1 + 0)))), (0, .int (zi ((N : Int)))), (1, .int (zi ((a : Int)))), (2, .int (zi ((q : Int)))), (3, .int (zi ((j : Int)))), (8, .int (zi (z2)))]) (pc := 73) hx hb dX4_chance_73 hl (by decide) rfl (fun ls hl => ?_)
        refine lv_iinc (v := zi (z2 + 1)) (lv' := [(8, .int (zi ((z2 + 1)))), (6, .long (zj (((z6 * ((N : Int) - z2)) / (z2 + 1))))), (4, .long (zj ((z1 + 0)))), (0, .int (zi ((N : Int)))), (1, .int (zi ((a : Int)))), (2, .int (zi ((q : Int)))), (3, .int (zi ((j : Int))))]) (pc := 75) hx hb dX4_chance_75 hl (k := 6) rfl (zi_add _ _) (by decide) rfl (fun ls hl => ?_)
        refine lv_goto (tgt := 9) (pc := 78) hx hb dX4_chance_78 (by decide) ?_
        exact ih  _ _ _ (by rw [e1]; simp only [sumZ]; rw [mskZ, if_neg (by omega)]) (by rw [e6, e2]; rfl) (by omega) ls (lv_sub hl [3, 4, 5, 6, 2, 1, 0] rfl)
      · refine lv_iload (pc := 23) hx hb dX4_chance_23 (lv_at hl 6 rfl) ?_
        refine lv_iload_n (pc := 25) hx hb dX4_chance_25 rfl (lv_at hl 2 rfl) ?_
        refine z_icmp_gt (tgt := 55) (pc := 26) hx hb dX4_chance_26 (by decide) (by omega) (by omega) (fun c_4 => ?_) (fun c_4 => ?_)
        · refine z_lconst0 (pc := 55) hx hb dX4_chance_55 ?_
          refine z_ladd (pc := 56) hx hb dX4_chance_56 ?_
          refine lv_lstore (lv' := [(4, .long (zj ((z1 + 0)))), (0, .int (zi ((N : Int)))), (1, .int (zi ((a : Int)))), (2, .int (zi ((q : Int)))), (3, .int (zi ((j : Int)))), (6, .long (zj (z6))), (8, .int (zi (z2)))]) (pc := 57) hx hb dX4_chance_57 hl (by decide) rfl (fun ls hl => ?_)
          refine lv_lload (pc := 59) hx hb dX4_chance_59 (lv_at hl 5 rfl) ?_
          refine lv_iload_n (pc := 61) hx hb dX4_chance_61 rfl (lv_at hl 1 rfl) ?_
          refine lv_iload (pc := 62) hx hb dX4_chance_62 (lv_at hl 6 rfl) ?_
          refine z_isub (pc := 64) hx hb dX4_chance_64 ?_
          refine z_i2l (pc := 65) hx hb (by omega) dX4_chance_65 ?_
          refine z_lmul (pc := 66) hx hb dX4_chance_66 ?_
          refine lv_iload (pc := 67) hx hb dX4_chance_67 (lv_at hl 6 rfl) ?_
          refine z_iconst (pc := 69) hx hb dX4_chance_69 ?_
          refine z_iadd (pc := 70) hx hb dX4_chance_70 ?_
          refine z_i2l (pc := 71) hx hb (by omega) dX4_chance_71 ?_
          refine z_ldiv (pc := 72) hx hb ⟨Int.mul_nonneg (by omega) (by omega), Int.le_trans (Int.mul_le_mul (show z6 ≤ 924 by omega) (show (N : Int) - z2 ≤ 12 by omega) (by omega) (by omega)) (by omega), by omega, by omega⟩ dX4_chance_72 ?_
          refine lv_lstore (lv' := [(6, .long (zj (((z6 * ((N : Int) - z2)) / (z2 + 1))))), (4, .long (zj ((z1 + 0)))), (0, .int (zi ((N : Int)))), (1, .int (zi ((a : Int)))), (2, .int (zi ((q : Int)))), (3, .int (zi ((j : Int)))), (8, .int (zi (z2)))]) (pc := 73) hx hb dX4_chance_73 hl (by decide) rfl (fun ls hl => ?_)
          refine lv_iinc (v := zi (z2 + 1)) (lv' := [(8, .int (zi ((z2 + 1)))), (6, .long (zj (((z6 * ((N : Int) - z2)) / (z2 + 1))))), (4, .long (zj ((z1 + 0)))), (0, .int (zi ((N : Int)))), (1, .int (zi ((a : Int)))), (2, .int (zi ((q : Int)))), (3, .int (zi ((j : Int))))]) (pc := 75) hx hb dX4_chance_75 hl (k := 6) rfl (zi_add _ _) (by decide) rfl (fun ls hl => ?_)
          refine lv_goto (tgt := 9) (pc := 78) hx hb dX4_chance_78 (by decide) ?_
          exact ih  _ _ _ (by rw [e1]; simp only [sumZ]; rw [mskZ, if_neg (by omega)]) (by rw [e6, e2]; rfl) (by omega) ls (lv_sub hl [3, 4, 5, 6, 2, 1, 0] rfl)
        · refine lv_lload (pc := 29) hx hb dX4_chance_29 (lv_at hl 5 rfl) ?_
          refine lv_iload_n (pc := 31) hx hb dX4_chance_31 rfl (lv_at hl 3 rfl) ?_
          refine z_i2l (pc := 32) hx hb (by omega) dX4_chance_32 ?_
          refine lv_iload (pc := 33) hx hb dX4_chance_33 (lv_at hl 6 rfl) ?_
          refine rd_S (pc := 35) hx hb hml hown hT hK (c_X4_power D cI cJ l ((j : Int)) (z2) (u) (by omega) (by omega)) ca_X4_power tw_569 va_Pnil ⟨Nat.le_of_ble_eq_true rfl, Nat.le_of_ble_eq_true rfl⟩ rfl hl.1 (As := [.long (zj ((j : Int))), .int (zi (z2))]) (rest := [.long (zj (z6)), .long (zj (z1))]) rfl (Nat.le_of_ble_eq_true rfl) ⟨Nat.le_of_ble_eq_true rfl, Nat.le_of_ble_eq_true rfl⟩ dX4_chance_35 ?_
          refine z_lmul (pc := 38) hx hb dX4_chance_38 ?_
          refine z_bipush (pc := 39) hx hb dX4_chance_39 (by decide) ?_
          refine lv_iload_n (pc := 41) hx hb dX4_chance_41 rfl (lv_at hl 3 rfl) ?_
          refine z_isub (pc := 42) hx hb dX4_chance_42 ?_
          refine z_i2l (pc := 43) hx hb (by omega) dX4_chance_43 ?_
          refine lv_iload_n (pc := 44) hx hb dX4_chance_44 rfl (lv_at hl 0 rfl) ?_
          refine lv_iload (pc := 45) hx hb dX4_chance_45 (lv_at hl 6 rfl) ?_
          refine z_isub (pc := 47) hx hb dX4_chance_47 ?_
          refine rd_S (pc := 48) hx hb hml hown hT hK (c_X4_power D cI cJ l ((10 - (j : Int))) (((N : Int) - z2)) ((N - u)) (by omega) (by omega)) ca_X4_power tw_569 va_Pnil ⟨Nat.le_of_ble_eq_true rfl, Nat.le_of_ble_eq_true rfl⟩ rfl hl.1 (As := [.long (zj ((10 - (j : Int)))), .int (zi (((N : Int) - z2)))]) (rest := [.long (zj ((z6 * (((j : Int)) ^ (u))))), .long (zj (z1))]) rfl (Nat.le_of_ble_eq_true rfl) ⟨Nat.le_of_ble_eq_true rfl, Nat.le_of_ble_eq_true rfl⟩ dX4_chance_48 ?_
          refine z_lmul (pc := 51) hx hb dX4_chance_51 ?_
          refine lv_goto (tgt := 56) (pc := 52) hx hb dX4_chance_52 (by decide) ?_
          refine z_ladd (pc := 56) hx hb dX4_chance_56 ?_
          refine lv_lstore (lv' := [(4, .long (zj ((z1 + ((z6 * (((j : Int)) ^ (u))) * (((10 - (j : Int))) ^ ((N - u)))))))), (0, .int (zi ((N : Int)))), (1, .int (zi ((a : Int)))), (2, .int (zi ((q : Int)))), (3, .int (zi ((j : Int)))), (6, .long (zj (z6))), (8, .int (zi (z2)))]) (pc := 57) hx hb dX4_chance_57 hl (by decide) rfl (fun ls hl => ?_)
          refine lv_lload (pc := 59) hx hb dX4_chance_59 (lv_at hl 5 rfl) ?_
          refine lv_iload_n (pc := 61) hx hb dX4_chance_61 rfl (lv_at hl 1 rfl) ?_
          refine lv_iload (pc := 62) hx hb dX4_chance_62 (lv_at hl 6 rfl) ?_
          refine z_isub (pc := 64) hx hb dX4_chance_64 ?_
          refine z_i2l (pc := 65) hx hb (by omega) dX4_chance_65 ?_
          refine z_lmul (pc := 66) hx hb dX4_chance_66 ?_
          refine lv_iload (pc := 67) hx hb dX4_chance_67 (lv_at hl 6 rfl) ?_
          refine z_iconst (pc := 69) hx hb dX4_chance_69 ?_
          refine z_iadd (pc := 70) hx hb dX4_chance_70 ?_
          refine z_i2l (pc := 71) hx hb (by omega) dX4_chance_71 ?_
          refine z_ldiv (pc := 72) hx hb ⟨Int.mul_nonneg (by omega) (by omega), Int.le_trans (Int.mul_le_mul (show z6 ≤ 924 by omega) (show (N : Int) - z2 ≤ 12 by omega) (by omega) (by omega)) (by omega), by omega, by omega⟩ dX4_chance_72 ?_
          refine lv_lstore (lv' := [(6, .long (zj (((z6 * ((N : Int) - z2)) / (z2 + 1))))), (4, .long (zj ((z1 + ((z6 * (((j : Int)) ^ (u))) * (((10 - (j : Int))) ^ ((N - u)))))))), (0, .int (zi ((N : Int)))), (1, .int (zi ((a : Int)))), (2, .int (zi ((q : Int)))), (3, .int (zi ((j : Int)))), (8, .int (zi (z2)))]) (pc := 73) hx hb dX4_chance_73 hl (by decide) rfl (fun ls hl => ?_)
          refine lv_iinc (v := zi (z2 + 1)) (lv' := [(8, .int (zi ((z2 + 1)))), (6, .long (zj (((z6 * ((N : Int) - z2)) / (z2 + 1))))), (4, .long (zj ((z1 + ((z6 * (((j : Int)) ^ (u))) * (((10 - (j : Int))) ^ ((N - u)))))))), (0, .int (zi ((N : Int)))), (1, .int (zi ((a : Int)))), (2, .int (zi ((q : Int)))), (3, .int (zi ((j : Int))))]) (pc := 75) hx hb dX4_chance_75 hl (k := 6) rfl (zi_add _ _) (by decide) rfl (fun ls hl => ?_)
          refine lv_goto (tgt := 9) (pc := 78) hx hb dX4_chance_78 (by decide) ?_
          exact ih  _ _ _ (by rw [e1]; simp only [sumZ]; rw [mskZ, if_pos (by omega), Nat.zero_add, termZ, e6]) (by rw [e6, e2]; rfl) (by omega) ls (lv_sub hl [3, 4, 5, 6, 2, 1, 0] rfl)
  refine z_lconst0 (pc := 0) hx hb dX4_chance_0 ?_
  refine lv_lstore (lv' := [(4, .long (zj (0))), (0, .int (zi ((N : Int)))), (1, .int (zi ((a : Int)))), (2, .int (zi ((q : Int)))), (3, .int (zi ((j : Int))))]) (pc := 1) hx hb dX4_chance_1 hl (by decide) rfl (fun ls hl => ?_)
  refine z_lconst1 (pc := 3) hx hb dX4_chance_3 ?_
  refine lv_lstore (lv' := [(6, .long (zj (1))), (4, .long (zj (0))), (0, .int (zi ((N : Int)))), (1, .int (zi ((a : Int)))), (2, .int (zi ((q : Int)))), (3, .int (zi ((j : Int))))]) (pc := 4) hx hb dX4_chance_4 hl (by decide) rfl (fun ls hl => ?_)
  refine z_iconst (pc := 6) hx hb dX4_chance_6 ?_
  refine lv_istore (lv' := [(8, .int (zi (0))), (6, .long (zj (1))), (4, .long (zj (0))), (0, .int (zi ((N : Int)))), (1, .int (zi ((a : Int)))), (2, .int (zi ((q : Int)))), (3, .int (zi ((j : Int))))]) (pc := 7) hx hb dX4_chance_7 hl (by decide) rfl (fun ls hl => ?_)
  exact loop 0 (by omega) _ _ _ (by rfl) (by rfl) (by rfl) ls (lv_sub hl [3, 4, 5, 6, 2, 1, 0] rfl)

theorem lo_zero {N : Nat} {h : Int} (hN : N ≤ 12) (hh : h ≤ 50) {j : Nat} (hj : j ≤ 10) : ¬ loT N 0 h j := by
  have h1 := termZ_all ⟨N, by omega⟩ ⟨j, by omega⟩
  simp only at h1
  have h2 := pow10_rng hN
  have h3 : h * 10 ^ N ≤ 50 * 10 ^ N := Int.mul_le_mul_of_nonneg_right hh (by omega)
  unfold loT
  rw [Nat.sub_zero, h1]
  omega
theorem loF_zero {N : Nat} {h : Int} (hN : N ≤ 12) (hh : h ≤ 50) : ∀ j, j ≤ 10 → loF (loT N 0 h) j = 0
  | 0, _ => rfl
  | j + 1, hj => by simp only [loF]; rw [if_neg (lo_zero hN hh hj), loF_zero hN hh j (by omega)]

set_option maxHeartbeats 4000000 in
set_option maxRecDepth 100000 in
theorem c_X4_end (D : va_G) (cI cJ : ClassId) (l : Launch) (ad : Nat → Nat) (n : Int) (st hr ca sp : Nat → Int) (k : Int) (ts th : Nat → Int) (pr hc lu ll up lo : Int) (fr rr hv : Nat → Int) (x : Int) (r_x : -2147483648 ≤ x ∧ x ≤ 2147483647) (y : Int) (r_y : -2147483648 ≤ y ∧ y ≤ 2147483647) (t : Int) (r_t : -2147483648 ≤ t ∧ t ≤ 2147483647) (w : Int) (r_w : -2147483648 ≤ w ∧ w ≤ 2147483647) : RD D cI cJ l yX4_end cX4_end 10 (some .int) 2 53 [.ref (ad 0), .int (zi (x)), .int (zi (y)), .int (zi (t)), .int (zi (w))] (wM ad cI n st hr ca sp k ts th pr hc lu ll up lo fr rr hv) (.int (zi (endV x y t w))) := by
  refine RD.of (by decide) (Nat.le_of_ble_eq_true rfl) ?_
  intro p e s m args below meth c hx hb hrt hml hown hT hlk hK hP ls hl
  replace hl : lv_has ls 10 [(0, .ref (ad 0)), (1, .int (zi (x))), (2, .int (zi (y))), (3, .int (zi (t))), (4, .int (zi (w)))] := hl
  have loop2 : ∀ u : Nat, u ≤ 10 → ∀ (z5 z7 z8 z9 : Int), (z5 = (100 - t) * 10 ^ x.toNat) → (z7 = loF (loT x.toNat y.toNat (100 - t)) 10) → (z8 = hiF (hiT x.toNat y.toNat (100 - t)) u) → (z9 = 9 - (u : Int)) → (((1 ≤ x ∧ x ≤ 12) ∧ (0 ≤ y ∧ y ≤ x)) ∧ (50 ≤ t ∧ t ≤ 99) ∧ (0 ≤ w ∧ w ≤ 1)) → ∀ ls : Array Slot, lv_has ls 10 [(1, .int (zi (x))), (2, .int (zi (y))), (4, .int (zi (w))), (5, .long (zj (z5))), (7, .int (zi (z7))), (8, .int (zi (z8))), (9, .int (zi (z9)))] → W p l e (RM 2 53) s m args below meth c s.heap [] 0 0 (MQ below (QR (.int (zi (endV x y t w))) s.heap) args s 0 0 (fun _ => False)) (F0 m 125 ls []) := by
    refine lp_up (fun u => ∀ (z5 z7 z8 z9 : Int), (z5 = (100 - t) * 10 ^ x.toNat) → (z7 = loF (loT x.toNat y.toNat (100 - t)) 10) → (z8 = hiF (hiT x.toNat y.toNat (100 - t)) u) → (z9 = 9 - (u : Int)) → (((1 ≤ x ∧ x ≤ 12) ∧ (0 ≤ y ∧ y ≤ x)) ∧ (50 ≤ t ∧ t ≤ 99) ∧ (0 ≤ w ∧ w ≤ 1)) → ∀ ls : Array Slot, lv_has ls 10 [(1, .int (zi (x))), (2, .int (zi (y))), (4, .int (zi (w))), (5, .long (zj (z5))), (7, .int (zi (z7))), (8, .int (zi (z8))), (9, .int (zi (z9)))] → W p l e (RM 2 53) s m args below meth c s.heap [] 0 0 (MQ below (QR (.int (zi (endV x y t w))) s.heap) args s 0 0 (fun _ => False)) (F0 m 125 ls [])) (10) ?_ ?_
    · intro z5 z7 z8 z9 e5 e7 e8 e9 hok ls hl
      refine lv_iload (pc := 125) hx hb dX4_end_125 (lv_at hl 6 rfl) ?_
      refine z_if_lt (tgt := 163) (pc := 127) hx hb dX4_end_127 (by decide) (by omega) (fun c_1 => ?_) (fun c_1 => absurd c_1 (by omega))
      refine lv_iload (pc := 163) hx hb dX4_end_163 (lv_at hl 2 rfl) ?_
      refine z_if_ne (tgt := 173) (pc := 165) hx hb dX4_end_165 (by decide) (by omega) (fun c_2 => ?_) (fun c_2 => ?_)
      · refine lv_iload (pc := 173) hx hb dX4_end_173 (lv_at hl 5 rfl) ?_
        exact rd_iret hx hb hrt hlk dX4_end_175 (by rw [endV, if_pos hok, if_neg (by omega), e8])
      · refine lv_iload (pc := 168) hx hb dX4_end_168 (lv_at hl 4 rfl) ?_
        refine lv_goto (tgt := 175) (pc := 170) hx hb dX4_end_170 (by decide) ?_
        exact rd_iret hx hb hrt hlk dX4_end_175 (by rw [endV, if_pos hok, if_pos (by omega), e7])
    · intro u hu ih z5 z7 z8 z9 e5 e7 e8 e9 hok ls hl
      refine lv_iload (pc := 125) hx hb dX4_end_125 (lv_at hl 6 rfl) ?_
      refine z_if_lt (tgt := 163) (pc := 127) hx hb dX4_end_127 (by decide) (by omega) (fun c_3 => absurd c_3 (by omega)) (fun c_3 => ?_)
      have hc := cases_rng (N := x.toNat) (a := 0) (c := y.toNat + 1 - 0) (j := 9 - u) (by omega) (by omega) (by omega)
      have hp := pow10_rng (N := x.toNat) (by omega)
      have hp2 := mul_rng (a := 100 - t) (b := 10 ^ x.toNat) (A := 50) (B := 1000000000000) (by omega) (by omega)
      refine z_ldc2 (pc := 130) hx hb (100) hown (hT _ tw_508) (by decide) dX4_end_130 ?_
      refine lv_iload_n (pc := 133) hx hb dX4_end_133 rfl (lv_at hl 0 rfl) ?_
      refine z_iconst (pc := 134) hx hb dX4_end_134 ?_
      refine lv_iload_n (pc := 135) hx hb dX4_end_135 rfl (lv_at hl 1 rfl) ?_
      refine lv_iload (pc := 136) hx hb dX4_end_136 (lv_at hl 6 rfl) ?_
      refine rd_S (pc := 138) hx hb hml hown hT hK (c_X4_chance D cI cJ l (x) (0) (y) (z9) x.toNat 0 y.toNat (9 - u) (by omega) (by omega) (by omega) (by omega) (by omega)) ca_X4_chance tw_572 va_Pnil ⟨Nat.le_of_ble_eq_true rfl, Nat.le_of_ble_eq_true rfl⟩ rfl hl.1 (As := [.int (zi (x)), .int (zi (0)), .int (zi (y)), .int (zi (z9))]) (rest := [.long (zj (100))]) rfl (Nat.le_of_ble_eq_true rfl) ⟨Nat.le_of_ble_eq_true rfl, Nat.le_of_ble_eq_true rfl⟩ dX4_end_138 ?_
      refine z_lmul (pc := 141) hx hb dX4_end_141 ?_
      refine lv_lload (pc := 142) hx hb dX4_end_142 (lv_at hl 3 rfl) ?_
      refine z_lcmp_gt (tgt := 153) (pc := 144) hx hb dX4_end_144 dX4_end_145 (by decide) (by omega) (by omega) (fun c_4 => ?_) (fun c_4 => ?_)
      · refine lv_iload (pc := 153) hx hb dX4_end_153 (lv_at hl 5 rfl) ?_
        refine lv_istore (lv' := [(8, .int (zi (z8))), (1, .int (zi (x))), (2, .int (zi (y))), (4, .int (zi (w))), (5, .long (zj (z5))), (7, .int (zi (z7))), (9, .int (zi (z9)))]) (pc := 155) hx hb dX4_end_155 hl (by decide) rfl (fun ls hl => ?_)
        refine lv_iinc (v := zi (z9 + (-1))) (lv' := [(9, .int (zi ((z9 + (-1))))), (8, .int (zi (z8))), (1, .int (zi (x))), (2, .int (zi (y))), (4, .int (zi (w))), (5, .long (zj (z5))), (7, .int (zi (z7)))]) (pc := 157) hx hb dX4_end_157 hl (k := 6) rfl (zi_add _ _) (by decide) rfl (fun ls hl => ?_)
        refine lv_goto (tgt := 125) (pc := 160) hx hb dX4_end_160 (by decide) ?_
        exact ih  _ _ _ _ (e5) (e7) (by rw [hiF, show 10 - (u + 1) = 9 - u by omega, if_neg (by unfold hiT; rw [Nat.sub_zero] at *; omega)]; exact e8) (by omega) (hok) ls (lv_sub hl [2, 3, 4, 5, 6, 1, 0] rfl)
      · refine lv_iload (pc := 148) hx hb dX4_end_148 (lv_at hl 6 rfl) ?_
        refine lv_goto (tgt := 155) (pc := 150) hx hb dX4_end_150 (by decide) ?_
        refine lv_istore (lv' := [(8, .int (zi (z9))), (1, .int (zi (x))), (2, .int (zi (y))), (4, .int (zi (w))), (5, .long (zj (z5))), (7, .int (zi (z7))), (9, .int (zi (z9)))]) (pc := 155) hx hb dX4_end_155 hl (by decide) rfl (fun ls hl => ?_)
        refine lv_iinc (v := zi (z9 + (-1))) (lv' := [(9, .int (zi ((z9 + (-1))))), (8, .int (zi (z9))), (1, .int (zi (x))), (2, .int (zi (y))), (4, .int (zi (w))), (5, .long (zj (z5))), (7, .int (zi (z7)))]) (pc := 157) hx hb dX4_end_157 hl (k := 6) rfl (zi_add _ _) (by decide) rfl (fun ls hl => ?_)
        refine lv_goto (tgt := 125) (pc := 160) hx hb dX4_end_160 (by decide) ?_
        exact ih  _ _ _ _ (e5) (e7) (by rw [hiF, show 10 - (u + 1) = 9 - u by omega, if_pos (by unfold hiT; rw [Nat.sub_zero] at *; omega)]; omega) (by omega) (hok) ls (lv_sub hl [2, 3, 4, 5, 6, 1, 0] rfl)
  have loop1 : ∀ u : Nat, u ≤ 11 → ∀ (z5 z7 z8 z9 : Int), (z5 = (100 - t) * 10 ^ x.toNat) → (z7 = if 0 < y then loF (loT x.toNat y.toNat (100 - t)) (u - 1) else 0) → (z8 = 10) → (z9 = (u : Int)) → (((1 ≤ x ∧ x ≤ 12) ∧ (0 ≤ y ∧ y ≤ x)) ∧ (50 ≤ t ∧ t ≤ 99) ∧ (0 ≤ w ∧ w ≤ 1)) → ∀ ls : Array Slot, lv_has ls 10 [(1, .int (zi (x))), (2, .int (zi (y))), (4, .int (zi (w))), (5, .long (zj (z5))), (7, .int (zi (z7))), (8, .int (zi (z8))), (9, .int (zi (z9)))] → W p l e (RM 2 53) s m args below meth c s.heap [] 0 0 (MQ below (QR (.int (zi (endV x y t w))) s.heap) args s 0 0 (fun _ => False)) (F0 m 77 ls []) := by
    refine lp_up (fun u => ∀ (z5 z7 z8 z9 : Int), (z5 = (100 - t) * 10 ^ x.toNat) → (z7 = if 0 < y then loF (loT x.toNat y.toNat (100 - t)) (u - 1) else 0) → (z8 = 10) → (z9 = (u : Int)) → (((1 ≤ x ∧ x ≤ 12) ∧ (0 ≤ y ∧ y ≤ x)) ∧ (50 ≤ t ∧ t ≤ 99) ∧ (0 ≤ w ∧ w ≤ 1)) → ∀ ls : Array Slot, lv_has ls 10 [(1, .int (zi (x))), (2, .int (zi (y))), (4, .int (zi (w))), (5, .long (zj (z5))), (7, .int (zi (z7))), (8, .int (zi (z8))), (9, .int (zi (z9)))] → W p l e (RM 2 53) s m args below meth c s.heap [] 0 0 (MQ below (QR (.int (zi (endV x y t w))) s.heap) args s 0 0 (fun _ => False)) (F0 m 77 ls [])) (11) ?_ ?_
    · intro z5 z7 z8 z9 e5 e7 e8 e9 hok ls hl
      refine lv_iload (pc := 77) hx hb dX4_end_77 (lv_at hl 6 rfl) ?_
      refine z_bipush (pc := 79) hx hb dX4_end_79 (by decide) ?_
      refine z_icmp_gt (tgt := 121) (pc := 81) hx hb dX4_end_81 (by decide) (by omega) (by omega) (fun c_5 => ?_) (fun c_5 => absurd c_5 (by omega))
      have q7 : z7 = loF (loT x.toNat y.toNat (100 - t)) 10 := by
        rw [e7]
        by_cases hy0 : 0 < y
        · rw [if_pos hy0]
        · rw [if_neg hy0, show y.toNat = 0 by omega, loF_zero (by omega) (by omega) 10 (by omega)]
      refine z_bipush (pc := 121) hx hb dX4_end_121 (by decide) ?_
      refine lv_istore (lv' := [(9, .int (zi (9))), (1, .int (zi (x))), (2, .int (zi (y))), (4, .int (zi (w))), (5, .long (zj (z5))), (7, .int (zi (z7))), (8, .int (zi (z8)))]) (pc := 123) hx hb dX4_end_123 hl (by decide) rfl (fun ls hl => ?_)
      exact loop2 0 (by omega) _ _ _ _ (e5) (q7) (by rw [e8]; rfl) (by omega) (hok) ls (lv_sub hl [1, 2, 3, 4, 5, 6, 0] rfl)
    · intro u hu ih z5 z7 z8 z9 e5 e7 e8 e9 hok ls hl
      refine lv_iload (pc := 77) hx hb dX4_end_77 (lv_at hl 6 rfl) ?_
      refine z_bipush (pc := 79) hx hb dX4_end_79 (by decide) ?_
      refine z_icmp_gt (tgt := 121) (pc := 81) hx hb dX4_end_81 (by decide) (by omega) (by omega) (fun c_6 => absurd c_6 (by omega)) (fun c_6 => ?_)
      have hc := cases_rng (N := x.toNat) (a := y.toNat) (c := x.toNat + 1 - y.toNat) (j := u) (by omega) (by omega) (by omega)
      have hp := pow10_rng (N := x.toNat) (by omega)
      have hp2 := mul_rng (a := 100 - t) (b := 10 ^ x.toNat) (A := 50) (B := 1000000000000) (by omega) (by omega)
      refine z_ldc2 (pc := 84) hx hb (100) hown (hT _ tw_508) (by decide) dX4_end_84 ?_
      refine lv_iload_n (pc := 87) hx hb dX4_end_87 rfl (lv_at hl 0 rfl) ?_
      refine lv_iload_n (pc := 88) hx hb dX4_end_88 rfl (lv_at hl 1 rfl) ?_
      refine lv_iload_n (pc := 89) hx hb dX4_end_89 rfl (lv_at hl 0 rfl) ?_
      refine lv_iload (pc := 90) hx hb dX4_end_90 (lv_at hl 6 rfl) ?_
      refine rd_S (pc := 92) hx hb hml hown hT hK (c_X4_chance D cI cJ l (x) (y) (x) (z9) x.toNat y.toNat x.toNat u (by omega) (by omega) (by omega) (by omega) (by omega)) ca_X4_chance tw_572 va_Pnil ⟨Nat.le_of_ble_eq_true rfl, Nat.le_of_ble_eq_true rfl⟩ rfl hl.1 (As := [.int (zi (x)), .int (zi (y)), .int (zi (x)), .int (zi (z9))]) (rest := [.long (zj (100))]) rfl (Nat.le_of_ble_eq_true rfl) ⟨Nat.le_of_ble_eq_true rfl, Nat.le_of_ble_eq_true rfl⟩ dX4_end_92 ?_
      refine z_lmul (pc := 95) hx hb dX4_end_95 ?_
      refine lv_lload (pc := 96) hx hb dX4_end_96 (lv_at hl 3 rfl) ?_
      refine z_lcmp_gt (tgt := 111) (pc := 98) hx hb dX4_end_98 dX4_end_99 (by decide) (by omega) (by omega) (fun c_7 => ?_) (fun c_7 => ?_)
      · refine lv_iload (pc := 111) hx hb dX4_end_111 (lv_at hl 4 rfl) ?_
        refine lv_istore (lv' := [(7, .int (zi (z7))), (1, .int (zi (x))), (2, .int (zi (y))), (4, .int (zi (w))), (5, .long (zj (z5))), (8, .int (zi (z8))), (9, .int (zi (z9)))]) (pc := 113) hx hb dX4_end_113 hl (by decide) rfl (fun ls hl => ?_)
        have hstep : z7 = if 0 < y then loF (loT x.toNat y.toNat (100 - t)) (u + 1 - 1) else 0 := by
          rw [e7, Nat.add_sub_cancel]
          by_cases hy0 : 0 < y
          · rw [if_pos hy0, if_pos hy0]
            rcases Nat.eq_zero_or_pos u with q | q
            · subst q; rfl
            · obtain ⟨v, hv⟩ : ∃ v, u = v + 1 := ⟨u - 1, by omega⟩
              subst hv
              rw [Nat.add_sub_cancel]
              conv => rhs; rw [loF]
              rw [if_neg (by unfold loT; omega)]
          · rw [if_neg hy0, if_neg hy0]
        refine lv_iinc (v := zi (z9 + 1)) (lv' := [(9, .int (zi ((z9 + 1)))), (7, .int (zi (z7))), (1, .int (zi (x))), (2, .int (zi (y))), (4, .int (zi (w))), (5, .long (zj (z5))), (8, .int (zi (z8)))]) (pc := 115) hx hb dX4_end_115 hl (k := 6) rfl (zi_add _ _) (by decide) rfl (fun ls hl => ?_)
        refine lv_goto (tgt := 77) (pc := 118) hx hb dX4_end_118 (by decide) ?_
        exact ih  _ _ _ _ (e5) (hstep) (e8) (by omega) (hok) ls (lv_sub hl [2, 3, 4, 5, 1, 6, 0] rfl)
      · refine lv_iload_n (pc := 102) hx hb dX4_end_102 rfl (lv_at hl 1 rfl) ?_
        refine z_if_le (tgt := 111) (pc := 103) hx hb dX4_end_103 (by decide) (by omega) (fun c_8 => ?_) (fun c_8 => ?_)
        · refine lv_iload (pc := 111) hx hb dX4_end_111 (lv_at hl 4 rfl) ?_
          refine lv_istore (lv' := [(7, .int (zi (z7))), (1, .int (zi (x))), (2, .int (zi (y))), (4, .int (zi (w))), (5, .long (zj (z5))), (8, .int (zi (z8))), (9, .int (zi (z9)))]) (pc := 113) hx hb dX4_end_113 hl (by decide) rfl (fun ls hl => ?_)
          have hstep : z7 = if 0 < y then loF (loT x.toNat y.toNat (100 - t)) (u + 1 - 1) else 0 := by
            rw [e7, Nat.add_sub_cancel]
            by_cases hy0 : 0 < y
            · rw [if_pos hy0, if_pos hy0]
              rcases Nat.eq_zero_or_pos u with q | q
              · subst q; rfl
              · obtain ⟨v, hv⟩ : ∃ v, u = v + 1 := ⟨u - 1, by omega⟩
                subst hv
                rw [Nat.add_sub_cancel]
                conv => rhs; rw [loF]
                rw [if_neg (by unfold loT; omega)]
            · rw [if_neg hy0, if_neg hy0]
          refine lv_iinc (v := zi (z9 + 1)) (lv' := [(9, .int (zi ((z9 + 1)))), (7, .int (zi (z7))), (1, .int (zi (x))), (2, .int (zi (y))), (4, .int (zi (w))), (5, .long (zj (z5))), (8, .int (zi (z8)))]) (pc := 115) hx hb dX4_end_115 hl (k := 6) rfl (zi_add _ _) (by decide) rfl (fun ls hl => ?_)
          refine lv_goto (tgt := 77) (pc := 118) hx hb dX4_end_118 (by decide) ?_
          exact ih  _ _ _ _ (e5) (hstep) (e8) (by omega) (hok) ls (lv_sub hl [2, 3, 4, 5, 1, 6, 0] rfl)
        · refine lv_iload (pc := 106) hx hb dX4_end_106 (lv_at hl 6 rfl) ?_
          refine lv_goto (tgt := 113) (pc := 108) hx hb dX4_end_108 (by decide) ?_
          refine lv_istore (lv' := [(7, .int (zi (z9))), (1, .int (zi (x))), (2, .int (zi (y))), (4, .int (zi (w))), (5, .long (zj (z5))), (8, .int (zi (z8))), (9, .int (zi (z9)))]) (pc := 113) hx hb dX4_end_113 hl (by decide) rfl (fun ls hl => ?_)
          have hstep : z9 = if 0 < y then loF (loT x.toNat y.toNat (100 - t)) (u + 1 - 1) else 0 := by
            rw [if_pos (by omega), Nat.add_sub_cancel]
            rcases Nat.eq_zero_or_pos u with q | q
            · subst q; exact e9
            · obtain ⟨v, hv⟩ : ∃ v, u = v + 1 := ⟨u - 1, by omega⟩
              subst hv
              rw [loF, if_pos (by unfold loT; omega)]; exact e9
          refine lv_iinc (v := zi (z9 + 1)) (lv' := [(9, .int (zi ((z9 + 1)))), (7, .int (zi (z9))), (1, .int (zi (x))), (2, .int (zi (y))), (4, .int (zi (w))), (5, .long (zj (z5))), (8, .int (zi (z8)))]) (pc := 115) hx hb dX4_end_115 hl (k := 6) rfl (zi_add _ _) (by decide) rfl (fun ls hl => ?_)
          refine lv_goto (tgt := 77) (pc := 118) hx hb dX4_end_118 (by decide) ?_
          exact ih  _ _ _ _ (e5) (hstep) (e8) (by omega) (hok) ls (lv_sub hl [2, 3, 4, 5, 1, 6, 0] rfl)
  refine lv_iload_n (pc := 0) hx hb dX4_end_0 rfl (lv_at hl 1 rfl) ?_
  refine z_i2l (pc := 1) hx hb (by omega) dX4_end_1 ?_
  refine z_lconst1 (pc := 2) hx hb dX4_end_2 ?_
  refine z_ldc2 (pc := 3) hx hb (12) hown (hT _ tw_565) (by decide) dX4_end_3 ?_
  refine rd_S (pc := 6) hx hb hml hown hT hK (c_X4_in D cI cJ l (x) (by omega) (1) (by omega) (12) (by omega)) ca_X4_in tw_400 va_Pnil ⟨Nat.le_of_ble_eq_true rfl, Nat.le_of_ble_eq_true rfl⟩ rfl hl.1 (As := [.long (zj (x)), .long (zj (1)), .long (zj (12))]) (rest := []) rfl (Nat.le_of_ble_eq_true rfl) ⟨Nat.le_of_ble_eq_true rfl, Nat.le_of_ble_eq_true rfl⟩ dX4_end_6 ?_
  refine z_ifB_eq (tgt := 48) (pc := 9) hx hb dX4_end_9 (by decide) (fun c_9 => ?_) (fun c_9 => ?_)
  · refine z_sipush (pc := 48) hx hb dX4_end_48 (by decide) ?_
    exact rd_iret hx hb hrt hlk dX4_end_51 (by rw [endV, if_neg (by omega)])
  · refine lv_iload_n (pc := 12) hx hb dX4_end_12 rfl (lv_at hl 2 rfl) ?_
    refine z_i2l (pc := 13) hx hb (by omega) dX4_end_13 ?_
    refine z_lconst0 (pc := 14) hx hb dX4_end_14 ?_
    refine lv_iload_n (pc := 15) hx hb dX4_end_15 rfl (lv_at hl 1 rfl) ?_
    refine z_i2l (pc := 16) hx hb (by omega) dX4_end_16 ?_
    refine rd_S (pc := 17) hx hb hml hown hT hK (c_X4_in D cI cJ l (y) (by omega) (0) (by omega) (x) (by omega)) ca_X4_in tw_400 va_Pnil ⟨Nat.le_of_ble_eq_true rfl, Nat.le_of_ble_eq_true rfl⟩ rfl hl.1 (As := [.long (zj (y)), .long (zj (0)), .long (zj (x))]) (rest := []) rfl (Nat.le_of_ble_eq_true rfl) ⟨Nat.le_of_ble_eq_true rfl, Nat.le_of_ble_eq_true rfl⟩ dX4_end_17 ?_
    refine z_ifB_eq (tgt := 48) (pc := 20) hx hb dX4_end_20 (by decide) (fun c_10 => ?_) (fun c_10 => ?_)
    · refine z_sipush (pc := 48) hx hb dX4_end_48 (by decide) ?_
      exact rd_iret hx hb hrt hlk dX4_end_51 (by rw [endV, if_neg (by omega)])
    · refine lv_iload_n (pc := 23) hx hb dX4_end_23 rfl (lv_at hl 3 rfl) ?_
      refine z_i2l (pc := 24) hx hb (by omega) dX4_end_24 ?_
      refine z_ldc2 (pc := 25) hx hb (50) hown (hT _ tw_566) (by decide) dX4_end_25 ?_
      refine z_ldc2 (pc := 28) hx hb (99) hown (hT _ tw_567) (by decide) dX4_end_28 ?_
      refine rd_S (pc := 31) hx hb hml hown hT hK (c_X4_in D cI cJ l (t) (by omega) (50) (by omega) (99) (by omega)) ca_X4_in tw_400 va_Pnil ⟨Nat.le_of_ble_eq_true rfl, Nat.le_of_ble_eq_true rfl⟩ rfl hl.1 (As := [.long (zj (t)), .long (zj (50)), .long (zj (99))]) (rest := []) rfl (Nat.le_of_ble_eq_true rfl) ⟨Nat.le_of_ble_eq_true rfl, Nat.le_of_ble_eq_true rfl⟩ dX4_end_31 ?_
      refine z_ifB_eq (tgt := 48) (pc := 34) hx hb dX4_end_34 (by decide) (fun c_11 => ?_) (fun c_11 => ?_)
      · refine z_sipush (pc := 48) hx hb dX4_end_48 (by decide) ?_
        exact rd_iret hx hb hrt hlk dX4_end_51 (by rw [endV, if_neg (by omega)])
      · refine lv_iload (pc := 37) hx hb dX4_end_37 (lv_at hl 4 rfl) ?_
        refine z_i2l (pc := 39) hx hb (by omega) dX4_end_39 ?_
        refine z_lconst0 (pc := 40) hx hb dX4_end_40 ?_
        refine z_lconst1 (pc := 41) hx hb dX4_end_41 ?_
        refine rd_S (pc := 42) hx hb hml hown hT hK (c_X4_in D cI cJ l (w) (by omega) (0) (by omega) (1) (by omega)) ca_X4_in tw_400 va_Pnil ⟨Nat.le_of_ble_eq_true rfl, Nat.le_of_ble_eq_true rfl⟩ rfl hl.1 (As := [.long (zj (w)), .long (zj (0)), .long (zj (1))]) (rest := []) rfl (Nat.le_of_ble_eq_true rfl) ⟨Nat.le_of_ble_eq_true rfl, Nat.le_of_ble_eq_true rfl⟩ dX4_end_42 ?_
        refine z_ifB_ne (tgt := 52) (pc := 45) hx hb dX4_end_45 (by decide) (fun c_12 => ?_) (fun c_12 => ?_)
        · have hok : ((1 ≤ x ∧ x ≤ 12) ∧ (0 ≤ y ∧ y ≤ x)) ∧ (50 ≤ t ∧ t ≤ 99) ∧ (0 ≤ w ∧ w ≤ 1) := by omega
          refine z_bipush (pc := 52) hx hb dX4_end_52 (by decide) ?_
          refine lv_iload_n (pc := 54) hx hb dX4_end_54 rfl (lv_at hl 3 rfl) ?_
          refine z_isub (pc := 55) hx hb dX4_end_55 ?_
          refine z_i2l (pc := 56) hx hb (by omega) dX4_end_56 ?_
          refine z_ldc2 (pc := 57) hx hb (10) hown (hT _ tw_568) (by decide) dX4_end_57 ?_
          refine lv_iload_n (pc := 60) hx hb dX4_end_60 rfl (lv_at hl 1 rfl) ?_
          refine rd_S (pc := 61) hx hb hml hown hT hK (c_X4_power D cI cJ l (10) (x) (x.toNat) (by omega) (by omega)) ca_X4_power tw_569 va_Pnil ⟨Nat.le_of_ble_eq_true rfl, Nat.le_of_ble_eq_true rfl⟩ rfl hl.1 (As := [.long (zj (10)), .int (zi (x))]) (rest := [.long (zj ((100 - t)))]) rfl (Nat.le_of_ble_eq_true rfl) ⟨Nat.le_of_ble_eq_true rfl, Nat.le_of_ble_eq_true rfl⟩ dX4_end_61 ?_
          refine z_lmul (pc := 64) hx hb dX4_end_64 ?_
          refine lv_lstore (lv' := [(5, .long (zj (((100 - t) * ((10) ^ (x.toNat)))))), (0, .ref (ad 0)), (1, .int (zi (x))), (2, .int (zi (y))), (3, .int (zi (t))), (4, .int (zi (w)))]) (pc := 65) hx hb dX4_end_65 hl (by decide) rfl (fun ls hl => ?_)
          refine z_iconst (pc := 67) hx hb dX4_end_67 ?_
          refine lv_istore (lv' := [(7, .int (zi (0))), (5, .long (zj (((100 - t) * ((10) ^ (x.toNat)))))), (0, .ref (ad 0)), (1, .int (zi (x))), (2, .int (zi (y))), (3, .int (zi (t))), (4, .int (zi (w)))]) (pc := 68) hx hb dX4_end_68 hl (by decide) rfl (fun ls hl => ?_)
          refine z_bipush (pc := 70) hx hb dX4_end_70 (by decide) ?_
          refine lv_istore (lv' := [(8, .int (zi (10))), (7, .int (zi (0))), (5, .long (zj (((100 - t) * ((10) ^ (x.toNat)))))), (0, .ref (ad 0)), (1, .int (zi (x))), (2, .int (zi (y))), (3, .int (zi (t))), (4, .int (zi (w)))]) (pc := 72) hx hb dX4_end_72 hl (by decide) rfl (fun ls hl => ?_)
          refine z_iconst (pc := 74) hx hb dX4_end_74 ?_
          refine lv_istore (lv' := [(9, .int (zi (0))), (8, .int (zi (10))), (7, .int (zi (0))), (5, .long (zj (((100 - t) * ((10) ^ (x.toNat)))))), (0, .ref (ad 0)), (1, .int (zi (x))), (2, .int (zi (y))), (3, .int (zi (t))), (4, .int (zi (w)))]) (pc := 75) hx hb dX4_end_75 hl (by decide) rfl (fun ls hl => ?_)
          exact loop1 0 (by omega) _ _ _ _ (by rfl) (by split <;> rfl) (by rfl) (by rfl) (hok) ls (lv_sub hl [5, 6, 8, 3, 2, 1, 0] rfl)
        · refine z_sipush (pc := 48) hx hb dX4_end_48 (by decide) ?_
          exact rd_iret hx hb hrt hlk dX4_end_51 (by rw [endV, if_neg (by omega)])
