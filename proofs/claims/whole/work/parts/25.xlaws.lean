/-- the HOURS of half, STRESS by STRESS -/
def hvF (n : Int) (st hr ca : Nat → Int) (k : Nat) : Int := timeF (tmT (FF n st hr ca (1 * 2 ^ k) (-1)) (RR n st hr (1 * 2 ^ k)) 1 2) 501
theorem hvF_rng (n : Int) (st hr ca : Nat → Int) (k : Nat) : -1 ≤ hvF n st hr ca k ∧ hvF n st hr ca k ≤ 500 := timeF_rng 501
theorem pow4 : ∀ k : Fin 4, (1 : Int) * 2 ^ k.val ≤ 8 ∧ (1 : Int) ≤ 1 * 2 ^ k.val := by decide
def fndI (H : Nat → Int) : Nat → Int
  | 0 => 0
  | u + 1 => if fndI H u = 0 then (if H u = -1 then 0 else 1) else 1
theorem fndI_rng (H : Nat → Int) : ∀ u, fndI H u = 0 ∨ fndI H u = 1
  | 0 => Or.inl rfl
  | u + 1 => by simp only [fndI]; split <;> (try split) <;> simp
def msZ (H : Nat → Int) (b s_ : Int) : Nat → Int
  | 0 => 0
  | u + 1 => msZ H b s_ u + (if H u = -1 then 0 else zabs (H u - saysZ b s_ u))
theorem msZ_rng {H : Nat → Int} (hH : ∀ j : Nat, -1 ≤ H j ∧ H j ≤ 500) {b s_ : Int} (hb : 0 ≤ b ∧ b ≤ 100000) (hs : 1 ≤ s_) : ∀ u : Nat, 0 ≤ msZ H b s_ u ∧ msZ H b s_ u ≤ 100501 * (u : Int)
  | 0 => by simp [msZ]
  | u + 1 => by
    have ih := msZ_rng hH hb hs u
    have h1 := hH u
    have h2 := saysZ_rng b s_ hb.1 hs u
    simp only [msZ]
    unfold zabs
    split
    · omega
    · split <;> omega
def LW (H : Nat → Int) (b0 d : Int) : Nat → Int × Int × Int
  | 0 => (b0, 1, msZ H b0 1 4)
  | m + 1 => if msZ H (b0 + ((m / 20 : Nat) : Int) * d) (((m % 20 : Nat) : Int) + 1) 4 < (LW H b0 d m).2.2 then (b0 + ((m / 20 : Nat) : Int) * d, ((m % 20 : Nat) : Int) + 1, msZ H (b0 + ((m / 20 : Nat) : Int) * d) (((m % 20 : Nat) : Int) + 1) 4) else LW H b0 d m
theorem LW_s (H : Nat → Int) (b0 d : Int) {u v : Nat} (hv : v < 20) : LW H b0 d (20 * u + v + 1) = if msZ H (b0 + (u : Int) * d) ((v : Int) + 1) 4 < (LW H b0 d (20 * u + v)).2.2 then (b0 + (u : Int) * d, (v : Int) + 1, msZ H (b0 + (u : Int) * d) ((v : Int) + 1) 4) else LW H b0 d (20 * u + v) := by
  conv => lhs; unfold LW
  rw [show (20 * u + v) / 20 = u by omega, show (20 * u + v) % 20 = v by omega]
def missV (n : Int) (st hr ca : Nat → Int) (b s_ : Int) : Int := if (1 ≤ b ∧ b ≤ 100000) ∧ (1 ≤ s_ ∧ s_ ≤ 20) then msZ (hvF n st hr ca) b s_ 4 else -1002
def lawV (n : Int) (st hr ca : Nat → Int) (b d w : Int) : Int := if ((1 ≤ b ∧ b ≤ 100000) ∧ (0 ≤ d ∧ d ≤ 1000)) ∧ b + 9 * d ≤ 100000 ∧ (0 ≤ w ∧ w ≤ 2) then (if fndI (hvF n st hr ca) 4 = 0 then -1003 else (if w = 0 then (LW (hvF n st hr ca) b d 200).1 else if w = 1 then (LW (hvF n st hr ca) b d 200).2.1 else (LW (hvF n st hr ca) b d 200).2.2)) else -1002
theorem fndI_c {H H' : Nat → Int} : ∀ u, (∀ j, j < u → H j = H' j) → fndI H u = fndI H' u
  | 0, _ => rfl
  | u + 1, h => by simp only [fndI]; rw [fndI_c u (fun j hj => h j (by omega)), h u (by omega)]

set_option maxHeartbeats 4000000 in
set_option maxRecDepth 100000 in
theorem c_X3_findHalves (D : va_G) (cI cJ : ClassId) (l : Launch) (ad : Nat → Nat) (n : Int) (st hr ca : Nat → Int) (pcs : Int) (fr lv : Nat → Int) (k : Int) (ts th sp hv : Nat → Int) (pr hc : Int) (hU : VU n st hr ca) : WR D cI cJ l yX3_findHalves cX3_findHalves 3 (some .boolean) 4 96 [.ref (ad 0)] (wX ad cI cJ n st hr ca pcs fr lv k ts th sp hv pr hc) (fun v' ws' => v' = .int (bI (¬ fndI (hvF n st hr ca) 4 = 0)) ∧ ∃ (pcs' : Int) (fr' lv' hv' : Nat → Int), (∀ j, j < 4 → hv' j = hvF n st hr ca j) ∧ ws' = (wX ad cI cJ n st hr ca pcs' fr' lv' k ts th sp hv' pr hc)) := by
  refine WR.of (by decide) (Nat.le_of_ble_eq_true rfl) ?_
  intro p e s m args below meth c hx hb hrt hml hown hT hlk hK hP hD hS ls hl
  replace hl : lv_has ls 3 [(0, .ref (ad 0))] := hl
  have loop : ∀ u : Nat, u ≤ 4 → ∀ (z1 z2 zp : Int), ∀ (fw : Nat → Int) (lw : Nat → Int) (hw : Nat → Int) (H : Heap) (locs : List Loc), (z1 = fndI (hvF n st hr ca) u) → (z2 = (u : Int)) → (∀ j, j < u → hw j = hvF n st hr ca j) → va_P D vwCl (wX ad cI cJ n st hr ca zp fw lw k ts th sp hw pr hc) H → va_D (inW (wX ad cI cJ n st hr ca pcs fr lv k ts th sp hv pr hc)) (wX ad cI cJ n st hr ca zp fw lw k ts th sp hw pr hc) → va_S (inW (wX ad cI cJ n st hr ca pcs fr lv k ts th sp hv pr hc)) s.heap H locs → ∀ ls : Array Slot, lv_has ls 3 [(0, .ref (ad 0)), (1, .int (zi (z1))), (2, .int (zi (z2)))] → W p l e (RM 4 96) s m args below meth c H locs 0 0 (MQ below (QW D (wX ad cI cJ n st hr ca pcs fr lv k ts th sp hv pr hc) (fun v' ws' => v' = .int (bI (¬ fndI (hvF n st hr ca) 4 = 0)) ∧ ∃ (pcs' : Int) (fr' lv' hv' : Nat → Int), (∀ j, j < 4 → hv' j = hvF n st hr ca j) ∧ ws' = (wX ad cI cJ n st hr ca pcs' fr' lv' k ts th sp hv' pr hc))) args s 0 0 (inW (wX ad cI cJ n st hr ca pcs fr lv k ts th sp hv pr hc))) (F0 m 4 ls []) := by
    refine lp_up (fun u => ∀ (z1 z2 zp : Int), ∀ (fw : Nat → Int) (lw : Nat → Int) (hw : Nat → Int) (H : Heap) (locs : List Loc), (z1 = fndI (hvF n st hr ca) u) → (z2 = (u : Int)) → (∀ j, j < u → hw j = hvF n st hr ca j) → va_P D vwCl (wX ad cI cJ n st hr ca zp fw lw k ts th sp hw pr hc) H → va_D (inW (wX ad cI cJ n st hr ca pcs fr lv k ts th sp hv pr hc)) (wX ad cI cJ n st hr ca zp fw lw k ts th sp hw pr hc) → va_S (inW (wX ad cI cJ n st hr ca pcs fr lv k ts th sp hv pr hc)) s.heap H locs → ∀ ls : Array Slot, lv_has ls 3 [(0, .ref (ad 0)), (1, .int (zi (z1))), (2, .int (zi (z2)))] → W p l e (RM 4 96) s m args below meth c H locs 0 0 (MQ below (QW D (wX ad cI cJ n st hr ca pcs fr lv k ts th sp hv pr hc) (fun v' ws' => v' = .int (bI (¬ fndI (hvF n st hr ca) 4 = 0)) ∧ ∃ (pcs' : Int) (fr' lv' hv' : Nat → Int), (∀ j, j < 4 → hv' j = hvF n st hr ca j) ∧ ws' = (wX ad cI cJ n st hr ca pcs' fr' lv' k ts th sp hv' pr hc))) args s 0 0 (inW (wX ad cI cJ n st hr ca pcs fr lv k ts th sp hv pr hc))) (F0 m 4 ls [])) (4) ?_ ?_
    · intro z1 z2 zp fw lw hw H locs e1 e2 e3 hP hD hS ls hl
      refine lv_iload_n (pc := 4) hx hb dX3_findHalves_4 rfl (lv_at hl 2 rfl) ?_
      refine z_iconst (pc := 5) hx hb dX3_findHalves_5 ?_
      refine z_icmp_ge (tgt := 65) (pc := 6) hx hb dX3_findHalves_6 (by decide) (by omega) (by omega) (fun c_1 => ?_) (fun c_1 => absurd c_1 (by omega))
      refine lv_iload_n (pc := 65) hx hb dX3_findHalves_65 rfl (lv_at hl 1 rfl) ?_
      have hfr := fndI_rng (hvF n st hr ca) 4
      have hzb : zi z1 = bI (¬ fndI (hvF n st hr ca) 4 = 0) := by
        rw [e1]
        rcases hfr with q | q
        · rw [q]; exact bI0 (fun h => h rfl)
        · rw [q]; exact bI1 (by omega)
      exact wr_zret (φ := ¬ fndI (hvF n st hr ca) 4 = 0) hx hb hrt hlk dX3_findHalves_66 hzb hP hS ⟨rfl, _, _, _, _, e3, rfl⟩
    · intro u hu ih z1 z2 zp fw lw hw H locs e1 e2 e3 hP hD hS ls hl
      refine lv_iload_n (pc := 4) hx hb dX3_findHalves_4 rfl (lv_at hl 2 rfl) ?_
      refine z_iconst (pc := 5) hx hb dX3_findHalves_5 ?_
      refine z_icmp_ge (tgt := 65) (pc := 6) hx hb dX3_findHalves_6 (by decide) (by omega) (by omega) (fun c_2 => absurd c_2 (by omega)) (fun c_2 => ?_)
      have ez : z2.toNat = u := by omega
      have hp4 := pow4 ⟨u, by omega⟩
      simp only at hp4
      rw [← ez] at hp4
      refine lv_aload_n (pc := 9) hx hb dX3_findHalves_9 rfl (lv_at hl 0 rfl) ?_
      refine va_get (D := D) (cl := vwCl) (ci := 3) (v := .ref (ad 2)) (C := RX3) (T := TX3) (N := 7) (pc := 10) hx hb hT inT3 hown hK.1 hP 0 rfl rfl 1 (by decide) (hT _ tw_76) (fun _ h9 => h9) rfl dX3_findHalves_10 ?_
      refine lv_aload_n (pc := 13) hx hb dX3_findHalves_13 rfl (lv_at hl 0 rfl) ?_
      refine va_get (D := D) (cl := vwCl) (ci := 3) (v := .ref (ad 1)) (C := RX3) (T := TX3) (N := 7) (pc := 14) hx hb hT inT3 hown hK.1 hP 0 rfl rfl 0 (by decide) (hT _ tw_75) (fun _ h9 => h9) rfl dX3_findHalves_14 ?_
      refine z_iconst (pc := 17) hx hb dX3_findHalves_17 ?_
      refine lv_iload_n (pc := 18) hx hb dX3_findHalves_18 rfl (lv_at hl 2 rfl) ?_
      refine z_ishl (pc := 19) hx hb (by omega) dX3_findHalves_19 ?_
      refine z_iconst (pc := 20) hx hb dX3_findHalves_20 ?_
      refine wv_V (pc := 21) hx hb hml hown hT hK (c_X0_look D cI cJ l ad n st hr ca zp fw lw k ts th sp hw pr hc hU ((1 * 2 ^ (z2).toNat)) (by omega) (-1) (by omega)) ca_X0_look tw_168 hP hD hS (fun q h => inW_same (by rfl) h) 2 0 rfl rfl rfl ⟨Nat.le_of_ble_eq_true rfl, Nat.le_of_ble_eq_true rfl⟩ rfl hl.1 (As := [.ref (ad 1), .int (zi ((1 * 2 ^ (z2).toNat))), .int (zi (-1))]) (rest := []) rfl (Nat.le_of_ble_eq_true rfl) ⟨Nat.le_of_ble_eq_true rfl, Nat.le_of_ble_eq_true rfl⟩ dX3_findHalves_21 (fun ws_ H locs hΦ hP hz_ hk_ hS => ?_)
      obtain ⟨i_3, φ_3, fr_3, lv_3, hE_3, rfl⟩ := hΦ
      replace hD : va_D (inW (wX ad cI cJ n st hr ca pcs fr lv k ts th sp hv pr hc)) (wX ad cI cJ n st hr ca (((i_3 : Int) + 1)) fr_3 lv_3 k ts th sp hw pr hc) := hD.same rfl
      refine lv_aload_n (pc := 24) hx hb dX3_findHalves_24 rfl (lv_at hl 0 rfl) ?_
      refine va_get (D := D) (cl := vwCl) (ci := 3) (v := .ref (ad 5)) (C := RX3) (T := TX3) (N := 7) (pc := 25) hx hb hT inT3 hown hK.1 hP 0 rfl rfl 4 (by decide) (hT _ tw_79) (fun _ h9 => h9) rfl dX3_findHalves_25 ?_
      refine lv_iload_n (pc := 28) hx hb dX3_findHalves_28 rfl (lv_at hl 2 rfl) ?_
      refine lv_aload_n (pc := 29) hx hb dX3_findHalves_29 rfl (lv_at hl 0 rfl) ?_
      refine va_get (D := D) (cl := vwCl) (ci := 3) (v := .ref (ad 2)) (C := RX3) (T := TX3) (N := 7) (pc := 30) hx hb hT inT3 hown hK.1 hP 0 rfl rfl 1 (by decide) (hT _ tw_76) (fun _ h9 => h9) rfl dX3_findHalves_30 ?_
      refine z_iconst (pc := 33) hx hb dX3_findHalves_33 ?_
      refine z_iconst (pc := 34) hx hb dX3_findHalves_34 ?_
      refine rd_V (pc := 35) hx hb hml hown hT hK (c_X0_firstAtMost D cI cJ l ad n st hr ca (((i_3 : Int) + 1)) fr_3 lv_3 k ts th sp hw pr hc (FF n st hr ca (1 * 2 ^ (z2).toNat) (-1)) (RR n st hr (1 * 2 ^ (z2).toNat)) (ST_of hU _ _) i_3 φ_3 hE_3 rfl (1) (2) (by omega)) ca_X0_firstAtMost tw_207 hP 2 0 rfl rfl rfl ⟨Nat.le_of_ble_eq_true rfl, Nat.le_of_ble_eq_true rfl⟩ rfl hl.1 (As := [.int (zi (1)), .int (zi (2))]) (rest := [.int (zi (z2)), .ref (ad 5)]) rfl (Nat.le_of_ble_eq_true rfl) ⟨Nat.le_of_ble_eq_true rfl, Nat.le_of_ble_eq_true rfl⟩ dX3_findHalves_35 ?_
      refine z_iast (pc := 38) hx hb hK hP hD hS 5 (u) (f := hw) (x := (timeF (tmT (FF n st hr ca (1 * 2 ^ (z2).toNat) (-1)) (RR n st hr (1 * 2 ^ (z2).toNat)) (1) (2)) 501)) rfl (by omega) (by omega) (by omega) dX3_findHalves_38 (fun H locs hP hD hS => ?_)
      replace hP : va_P D vwCl (wX ad cI cJ n st hr ca (((i_3 : Int) + 1)) fr_3 lv_3 k ts th sp (uZ hw (u) ((timeF (tmT (FF n st hr ca (1 * 2 ^ (z2).toNat) (-1)) (RR n st hr (1 * 2 ^ (z2).toNat)) (1) (2)) 501))) pr hc) H := hP
      replace hD : va_D (inW (wX ad cI cJ n st hr ca pcs fr lv k ts th sp hv pr hc)) (wX ad cI cJ n st hr ca (((i_3 : Int) + 1)) fr_3 lv_3 k ts th sp (uZ hw (u) ((timeF (tmT (FF n st hr ca (1 * 2 ^ (z2).toNat) (-1)) (RR n st hr (1 * 2 ^ (z2).toNat)) (1) (2)) 501))) pr hc) := hD
      have hus := uZ_s hw u (timeF (tmT (FF n st hr ca (1 * 2 ^ (z2).toNat) (-1)) (RR n st hr (1 * 2 ^ (z2).toNat)) (1) (2)) 501)
      have hval : uZ hw u (timeF (tmT (FF n st hr ca (1 * 2 ^ (z2).toNat) (-1)) (RR n st hr (1 * 2 ^ (z2).toNat)) (1) (2)) 501) u = hvF n st hr ca u := by rw [hus, ez]; rfl
      have htr := hvF_rng n st hr ca u
      have hfr := fndI_rng (hvF n st hr ca) u
      have hall : ∀ j, j < u + 1 → uZ hw u (timeF (tmT (FF n st hr ca (1 * 2 ^ (z2).toNat) (-1)) (RR n st hr (1 * 2 ^ (z2).toNat)) (1) (2)) 501) j = hvF n st hr ca j := by
        intro j hj
        rcases Nat.lt_or_ge j u with q | q
        · rw [uZ_n (by omega)]; exact e3 j q
        · have e : j = u := by omega
          rw [e]; exact hval
      refine lv_iload_n (pc := 39) hx hb dX3_findHalves_39 rfl (lv_at hl 1 rfl) ?_
      refine z_if_ne (tgt := 53) (pc := 40) hx hb dX3_findHalves_40 (by decide) (by omega) (fun c_4 => ?_) (fun c_4 => ?_)
      · refine z_iconst (pc := 53) hx hb dX3_findHalves_53 ?_
        refine lv_goto (tgt := 58) (pc := 54) hx hb dX3_findHalves_54 (by decide) ?_
        refine lv_istore_n (lv' := [(1, .int (zi (1))), (0, .ref (ad 0)), (2, .int (zi (z2)))]) (pc := 58) hx hb dX3_findHalves_58 rfl hl (by decide) rfl (fun ls hl => ?_)
        refine lv_iinc (v := zi (z2 + 1)) (lv' := [(2, .int (zi ((z2 + 1)))), (1, .int (zi (1))), (0, .ref (ad 0))]) (pc := 59) hx hb dX3_findHalves_59 hl (k := 2) rfl (zi_add _ _) (by decide) rfl (fun ls hl => ?_)
        refine lv_goto (tgt := 4) (pc := 62) hx hb dX3_findHalves_62 (by decide) ?_
        exact ih  _ _ _ _ _ _ _ _ (by simp only [fndI]; rw [← hval, ← e1]; repeat (first | rw [if_pos (by omega)] | rw [if_neg (by omega)])) (by omega) (hall) hP hD hS ls (lv_sub hl [2, 1, 0] rfl)
      · refine lv_aload_n (pc := 43) hx hb dX3_findHalves_43 rfl (lv_at hl 0 rfl) ?_
        refine va_get (D := D) (cl := vwCl) (ci := 3) (v := .ref (ad 5)) (C := RX3) (T := TX3) (N := 7) (pc := 44) hx hb hT inT3 hown hK.1 hP 0 rfl rfl 4 (by decide) (hT _ tw_79) (fun _ h9 => h9) rfl dX3_findHalves_44 ?_
        refine lv_iload_n (pc := 47) hx hb dX3_findHalves_47 rfl (lv_at hl 2 rfl) ?_
        refine z_iald (pc := 48) hx hb hK hP 5 (u) (f := uZ hw (u) ((timeF (tmT (FF n st hr ca (1 * 2 ^ (z2).toNat) (-1)) (RR n st hr (1 * 2 ^ (z2).toNat)) (1) (2)) 501))) rfl (by omega) (by omega) (by omega) dX3_findHalves_48 ?_
        refine z_iconst (pc := 49) hx hb dX3_findHalves_49 ?_
        refine z_icmp_eq (tgt := 57) (pc := 50) hx hb dX3_findHalves_50 (by decide) (by omega) (by omega) (fun c_5 => ?_) (fun c_5 => ?_)
        · refine z_iconst (pc := 57) hx hb dX3_findHalves_57 ?_
          refine lv_istore_n (lv' := [(1, .int (zi (0))), (0, .ref (ad 0)), (2, .int (zi (z2)))]) (pc := 58) hx hb dX3_findHalves_58 rfl hl (by decide) rfl (fun ls hl => ?_)
          refine lv_iinc (v := zi (z2 + 1)) (lv' := [(2, .int (zi ((z2 + 1)))), (1, .int (zi (0))), (0, .ref (ad 0))]) (pc := 59) hx hb dX3_findHalves_59 hl (k := 2) rfl (zi_add _ _) (by decide) rfl (fun ls hl => ?_)
          refine lv_goto (tgt := 4) (pc := 62) hx hb dX3_findHalves_62 (by decide) ?_
          exact ih  _ _ _ _ _ _ _ _ (by simp only [fndI]; rw [← hval, ← e1]; repeat (first | rw [if_pos (by omega)] | rw [if_neg (by omega)])) (by omega) (hall) hP hD hS ls (lv_sub hl [2, 1, 0] rfl)
        · refine z_iconst (pc := 53) hx hb dX3_findHalves_53 ?_
          refine lv_goto (tgt := 58) (pc := 54) hx hb dX3_findHalves_54 (by decide) ?_
          refine lv_istore_n (lv' := [(1, .int (zi (1))), (0, .ref (ad 0)), (2, .int (zi (z2)))]) (pc := 58) hx hb dX3_findHalves_58 rfl hl (by decide) rfl (fun ls hl => ?_)
          refine lv_iinc (v := zi (z2 + 1)) (lv' := [(2, .int (zi ((z2 + 1)))), (1, .int (zi (1))), (0, .ref (ad 0))]) (pc := 59) hx hb dX3_findHalves_59 hl (k := 2) rfl (zi_add _ _) (by decide) rfl (fun ls hl => ?_)
          refine lv_goto (tgt := 4) (pc := 62) hx hb dX3_findHalves_62 (by decide) ?_
          exact ih  _ _ _ _ _ _ _ _ (by simp only [fndI]; rw [← hval, ← e1]; repeat (first | rw [if_pos (by omega)] | rw [if_neg (by omega)])) (by omega) (hall) hP hD hS ls (lv_sub hl [2, 1, 0] rfl)
  refine z_iconst (pc := 0) hx hb dX3_findHalves_0 ?_
  refine lv_istore_n (lv' := [(1, .int (zi (0))), (0, .ref (ad 0))]) (pc := 1) hx hb dX3_findHalves_1 rfl hl (by decide) rfl (fun ls hl => ?_)
  refine z_iconst (pc := 2) hx hb dX3_findHalves_2 ?_
  refine lv_istore_n (lv' := [(2, .int (zi (0))), (1, .int (zi (0))), (0, .ref (ad 0))]) (pc := 3) hx hb dX3_findHalves_3 rfl hl (by decide) rfl (fun ls hl => ?_)
  exact loop 0 (by omega) _ _ _ _ _ _ _ _ (by rfl) (by rfl) (fun j hj => absurd hj (by omega)) hP hD hS ls (lv_sub hl [2, 1, 0] rfl)

set_option maxHeartbeats 4000000 in
set_option maxRecDepth 100000 in
theorem c_X3_missOfHalves (D : va_G) (cI cJ : ClassId) (l : Launch) (ad : Nat → Nat) (n : Int) (st hr ca : Nat → Int) (pcs : Int) (fr lv : Nat → Int) (k : Int) (ts th sp hv : Nat → Int) (pr hc : Int) (X : Nat → Int) (hX : ∀ j : Nat, -1 ≤ X j ∧ X j ≤ 500) (hH : ∀ j, j < 4 → hv j = X j) (b s_ : Int) (hq : 0 ≤ b ∧ b ≤ 100000 ∧ 1 ≤ s_ ∧ s_ ≤ 20) : RD D cI cJ l yX3_missOfHalves cX3_missOfHalves 5 (some .int) 2 45 [.ref (ad 0), .int (zi (b)), .int (zi (s_))] (wX ad cI cJ n st hr ca pcs fr lv k ts th sp hv pr hc) (.int (zi (msZ X b s_ 4))) := by
  refine RD.of (by decide) (Nat.le_of_ble_eq_true rfl) ?_
  intro p e s m args below meth c hx hb hrt hml hown hT hlk hK hP ls hl
  replace hl : lv_has ls 5 [(0, .ref (ad 0)), (1, .int (zi (b))), (2, .int (zi (s_)))] := hl
  have loop : ∀ u : Nat, u ≤ 4 → ∀ (z1 z2 : Int), (z1 = msZ X b s_ u) → (z2 = (u : Int)) → ∀ ls : Array Slot, lv_has ls 5 [(0, .ref (ad 0)), (1, .int (zi (b))), (2, .int (zi (s_))), (3, .int (zi (z1))), (4, .int (zi (z2)))] → W p l e (RM 2 45) s m args below meth c s.heap [] 0 0 (MQ below (QR (.int (zi (msZ X b s_ 4))) s.heap) args s 0 0 (fun _ => False)) (F0 m 5 ls []) := by
    refine lp_up (fun u => ∀ (z1 z2 : Int), (z1 = msZ X b s_ u) → (z2 = (u : Int)) → ∀ ls : Array Slot, lv_has ls 5 [(0, .ref (ad 0)), (1, .int (zi (b))), (2, .int (zi (s_))), (3, .int (zi (z1))), (4, .int (zi (z2)))] → W p l e (RM 2 45) s m args below meth c s.heap [] 0 0 (MQ below (QR (.int (zi (msZ X b s_ 4))) s.heap) args s 0 0 (fun _ => False)) (F0 m 5 ls [])) (4) ?_ ?_
    · intro z1 z2 e1 e2 ls hl
      refine lv_iload (pc := 5) hx hb dX3_missOfHalves_5 (lv_at hl 4 rfl) ?_
      refine z_iconst (pc := 7) hx hb dX3_missOfHalves_7 ?_
      refine z_icmp_ge (tgt := 49) (pc := 8) hx hb dX3_missOfHalves_8 (by decide) (by omega) (by omega) (fun c_1 => ?_) (fun c_1 => absurd c_1 (by omega))
      refine lv_iload_n (pc := 49) hx hb dX3_missOfHalves_49 rfl (lv_at hl 3 rfl) ?_
      exact rd_iret hx hb hrt hlk dX3_missOfHalves_50 (by rw [e1])
    · intro u hu ih z1 z2 e1 e2 ls hl
      refine lv_iload (pc := 5) hx hb dX3_missOfHalves_5 (lv_at hl 4 rfl) ?_
      refine z_iconst (pc := 7) hx hb dX3_missOfHalves_7 ?_
      refine z_icmp_ge (tgt := 49) (pc := 8) hx hb dX3_missOfHalves_8 (by decide) (by omega) (by omega) (fun c_2 => absurd c_2 (by omega)) (fun c_2 => ?_)
      have hHu : hv u = X u ∧ -1 ≤ X u ∧ X u ≤ 500 := ⟨hH u (by omega), hX u⟩
      have hsz := saysZ_rng b s_ (by omega) (by omega) u
      refine lv_aload_n (pc := 11) hx hb dX3_missOfHalves_11 rfl (lv_at hl 0 rfl) ?_
      refine va_get (D := D) (cl := vwCl) (ci := 3) (v := .ref (ad 5)) (C := RX3) (T := TX3) (N := 7) (pc := 12) hx hb hT inT3 hown hK.1 hP 0 rfl rfl 4 (by decide) (hT _ tw_79) (fun _ h9 => h9) rfl dX3_missOfHalves_12 ?_
      refine lv_iload (pc := 15) hx hb dX3_missOfHalves_15 (lv_at hl 4 rfl) ?_
      refine z_iald (pc := 17) hx hb hK hP 5 (u) (f := hv) rfl (by omega) (by omega) (by omega) dX3_missOfHalves_17 ?_
      refine z_iconst (pc := 18) hx hb dX3_missOfHalves_18 ?_
      refine z_icmp_eq (tgt := 43) (pc := 19) hx hb dX3_missOfHalves_19 (by decide) (by omega) (by omega) (fun c_3 => ?_) (fun c_3 => ?_)
      · refine lv_iinc (v := zi (z2 + 1)) (lv' := [(4, .int (zi ((z2 + 1)))), (0, .ref (ad 0)), (1, .int (zi (b))), (2, .int (zi (s_))), (3, .int (zi (z1)))]) (pc := 43) hx hb dX3_missOfHalves_43 hl (k := 4) rfl (zi_add _ _) (by decide) rfl (fun ls hl => ?_)
        refine lv_goto (tgt := 5) (pc := 46) hx hb dX3_missOfHalves_46 (by decide) ?_
        exact ih  _ _ (by rw [e1]; simp only [msZ]; rw [← hHu.1]; first | (rw [if_pos (by omega)]; omega) | rw [if_neg (by omega)]) (by omega) ls (lv_sub hl [1, 2, 3, 4, 0] rfl)
      · refine lv_iload_n (pc := 22) hx hb dX3_missOfHalves_22 rfl (lv_at hl 3 rfl) ?_
        refine lv_aload_n (pc := 23) hx hb dX3_missOfHalves_23 rfl (lv_at hl 0 rfl) ?_
        refine va_get (D := D) (cl := vwCl) (ci := 3) (v := .ref (ad 5)) (C := RX3) (T := TX3) (N := 7) (pc := 24) hx hb hT inT3 hown hK.1 hP 0 rfl rfl 4 (by decide) (hT _ tw_79) (fun _ h9 => h9) rfl dX3_missOfHalves_24 ?_
        refine lv_iload (pc := 27) hx hb dX3_missOfHalves_27 (lv_at hl 4 rfl) ?_
        refine z_iald (pc := 29) hx hb hK hP 5 (u) (f := hv) rfl (by omega) (by omega) (by omega) dX3_missOfHalves_29 ?_
        refine lv_iload_n (pc := 30) hx hb dX3_missOfHalves_30 rfl (lv_at hl 1 rfl) ?_
        refine lv_iload_n (pc := 31) hx hb dX3_missOfHalves_31 rfl (lv_at hl 2 rfl) ?_
        refine lv_iload (pc := 32) hx hb dX3_missOfHalves_32 (lv_at hl 4 rfl) ?_
        refine rd_S (pc := 34) hx hb hml hown hT hK (c_X3_lawAt D cI cJ l (b) (s_) (z2) (u) (by omega) (by omega)) ca_X3_lawAt tw_254 va_Pnil ⟨Nat.le_of_ble_eq_true rfl, Nat.le_of_ble_eq_true rfl⟩ rfl hl.1 (As := [.int (zi (b)), .int (zi (s_)), .int (zi (z2))]) (rest := [.int (zi ((hv (u)))), .int (zi (z1))]) rfl (Nat.le_of_ble_eq_true rfl) ⟨Nat.le_of_ble_eq_true rfl, Nat.le_of_ble_eq_true rfl⟩ dX3_missOfHalves_34 ?_
        refine z_isub (pc := 37) hx hb dX3_missOfHalves_37 ?_
        refine z_mabs (pc := 38) hx hb (hml.trans hl.1.symm) hown (hT _ tw_272) (hT _ tw_273) (hT _ tw_6) (hT _ tw_274) (Nat.le_of_ble_eq_true rfl) (Nat.le_of_ble_eq_true rfl) (Nat.le_of_ble_eq_true rfl) (Nat.le_of_ble_eq_true rfl) (by omega) dX3_missOfHalves_38 ?_
        refine z_iadd (pc := 41) hx hb dX3_missOfHalves_41 ?_
        refine lv_istore_n (lv' := [(3, .int (zi ((z1 + (zabs ((hv (u)) - (saysZ (b) (s_) (u)))))))), (0, .ref (ad 0)), (1, .int (zi (b))), (2, .int (zi (s_))), (4, .int (zi (z2)))]) (pc := 42) hx hb dX3_missOfHalves_42 rfl hl (by decide) rfl (fun ls hl => ?_)
        refine lv_iinc (v := zi (z2 + 1)) (lv' := [(4, .int (zi ((z2 + 1)))), (3, .int (zi ((z1 + (zabs ((hv (u)) - (saysZ (b) (s_) (u)))))))), (0, .ref (ad 0)), (1, .int (zi (b))), (2, .int (zi (s_)))]) (pc := 43) hx hb dX3_missOfHalves_43 hl (k := 4) rfl (zi_add _ _) (by decide) rfl (fun ls hl => ?_)
        refine lv_goto (tgt := 5) (pc := 46) hx hb dX3_missOfHalves_46 (by decide) ?_
        exact ih  _ _ (by rw [e1]; simp only [msZ]; rw [← hHu.1]; first | (rw [if_pos (by omega)]; omega) | rw [if_neg (by omega)]) (by omega) ls (lv_sub hl [2, 3, 4, 1, 0] rfl)
  refine z_iconst (pc := 0) hx hb dX3_missOfHalves_0 ?_
  refine lv_istore_n (lv' := [(3, .int (zi (0))), (0, .ref (ad 0)), (1, .int (zi (b))), (2, .int (zi (s_)))]) (pc := 1) hx hb dX3_missOfHalves_1 rfl hl (by decide) rfl (fun ls hl => ?_)
  refine z_iconst (pc := 2) hx hb dX3_missOfHalves_2 ?_
  refine lv_istore (lv' := [(4, .int (zi (0))), (3, .int (zi (0))), (0, .ref (ad 0)), (1, .int (zi (b))), (2, .int (zi (s_)))]) (pc := 3) hx hb dX3_missOfHalves_3 hl (by decide) rfl (fun ls hl => ?_)
  exact loop 0 (by omega) _ _ (by rfl) (by rfl) ls (lv_sub hl [2, 3, 4, 1, 0] rfl)

set_option maxHeartbeats 4000000 in
set_option maxRecDepth 100000 in
theorem c_X3_miss (D : va_G) (cI cJ : ClassId) (l : Launch) (ad : Nat → Nat) (n : Int) (st hr ca : Nat → Int) (pcs : Int) (fr lv : Nat → Int) (k : Int) (ts th sp hv : Nat → Int) (pr hc : Int) (hU : VU n st hr ca) (b : Int) (r_b : -2147483648 ≤ b ∧ b ≤ 2147483647) (s_ : Int) (r_s_ : -2147483648 ≤ s_ ∧ s_ ≤ 2147483647) : WR D cI cJ l yX3_miss cX3_miss 3 (some .int) 5 118 [.ref (ad 0), .int (zi (b)), .int (zi (s_))] (wX ad cI cJ n st hr ca pcs fr lv k ts th sp hv pr hc) (fun v' ws' => v' = .int (zi (missV n st hr ca b s_)) ∧ ∃ (pcs' : Int) (fr' lv' hv' : Nat → Int), ws' = (wX ad cI cJ n st hr ca pcs' fr' lv' k ts th sp hv' pr hc)) := by
  refine WR.of (by decide) (Nat.le_of_ble_eq_true rfl) ?_
  intro p e s m args below meth c hx hb hrt hml hown hT hlk hK hP hD hS ls hl
  replace hl : lv_has ls 3 [(0, .ref (ad 0)), (1, .int (zi (b))), (2, .int (zi (s_)))] := hl
  refine lv_iload_n (pc := 0) hx hb dX3_miss_0 rfl (lv_at hl 1 rfl) ?_
  refine lv_iload_n (pc := 1) hx hb dX3_miss_1 rfl (lv_at hl 2 rfl) ?_
  refine rd_S (pc := 2) hx hb hml hown hT hK (c_X3_isLaw D cI cJ l (b) (by omega) (s_) (by omega)) ca_X3_isLaw tw_250 va_Pnil ⟨Nat.le_of_ble_eq_true rfl, Nat.le_of_ble_eq_true rfl⟩ rfl hl.1 (As := [.int (zi (b)), .int (zi (s_))]) (rest := []) rfl (Nat.le_of_ble_eq_true rfl) ⟨Nat.le_of_ble_eq_true rfl, Nat.le_of_ble_eq_true rfl⟩ dX3_miss_2 ?_
  refine z_ifB_ne (tgt := 12) (pc := 5) hx hb dX3_miss_5 (by decide) (fun c_1 => ?_) (fun c_1 => ?_)
  · refine lv_aload_n (pc := 12) hx hb dX3_miss_12 rfl (lv_at hl 0 rfl) ?_
    refine wr_V (pc := 13) hx hb hml hown hT hK (c_X3_findHalves D cI cJ l ad n st hr ca pcs fr lv k ts th sp hv pr hc hU) ca_X3_findHalves tw_264 hP hD hS (fun q h => inW_same (by rfl) h) 0 3 rfl rfl rfl ⟨Nat.le_of_ble_eq_true rfl, Nat.le_of_ble_eq_true rfl⟩ rfl hl.1 (As := []) (rest := []) rfl (Nat.le_of_ble_eq_true rfl) ⟨Nat.le_of_ble_eq_true rfl, Nat.le_of_ble_eq_true rfl⟩ dX3_miss_13 (fun v_ ws_ H locs hΦ hP hz_ hk_ hS => ?_)
    obtain ⟨rfl, pcs_2, fr_2, lv_2, hv_2, hH_2, rfl⟩ := hΦ
    replace hD : va_D (inW (wX ad cI cJ n st hr ca pcs fr lv k ts th sp hv pr hc)) (wX ad cI cJ n st hr ca pcs_2 fr_2 lv_2 k ts th sp hv_2 pr hc) := hD.same rfl
    refine lv_pop (pc := 16) hx hb dX3_miss_16 rfl ?_
    refine lv_aload_n (pc := 17) hx hb dX3_miss_17 rfl (lv_at hl 0 rfl) ?_
    refine lv_iload_n (pc := 18) hx hb dX3_miss_18 rfl (lv_at hl 1 rfl) ?_
    refine lv_iload_n (pc := 19) hx hb dX3_miss_19 rfl (lv_at hl 2 rfl) ?_
    refine rd_V (pc := 20) hx hb hml hown hT hK (c_X3_missOfHalves D cI cJ l ad n st hr ca pcs_2 fr_2 lv_2 k ts th sp hv_2 pr hc (hvF n st hr ca) (hvF_rng n st hr ca) hH_2 (b) (s_) (by omega)) ca_X3_missOfHalves tw_268 hP 0 3 rfl rfl rfl ⟨Nat.le_of_ble_eq_true rfl, Nat.le_of_ble_eq_true rfl⟩ rfl hl.1 (As := [.int (zi (b)), .int (zi (s_))]) (rest := []) rfl (Nat.le_of_ble_eq_true rfl) ⟨Nat.le_of_ble_eq_true rfl, Nat.le_of_ble_eq_true rfl⟩ dX3_miss_20 ?_
    exact wr_iret hx hb hrt hlk dX3_miss_23 hP hS (⟨by rw [missV, if_pos (by omega)], _, _, _, _, rfl⟩)
  · refine z_sipush (pc := 8) hx hb dX3_miss_8 (by decide) ?_
    exact wr_iret hx hb hrt hlk dX3_miss_11 hP hS (⟨by rw [missV, if_neg (by omega)], pcs, fr, lv, hv, rfl⟩)
