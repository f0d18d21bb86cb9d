section ZCTORN
variable {p : Program} {l : Launch} {e : Env} {R : Room} {s : State} {m : MethodId} {args : Array Value} {below : List Frame} {meth : Method} {c : Code} {H : Heap} {locs : List Loc} {cells slots : Nat} {Q : State → Prop}
variable {cc : ByteArray} {pc : Nat} {ls : Array Slot} {rest : List Value} {D : va_G} {cI cJ : ClassId} {A : Nat → Prop} {H0 : Heap} {ws : va_W}
/-- a call of a constructor -/
theorem ct_IN (hx : p.tables.exec = Jvm.exec) (hb : c.code = cc) {nL : Nat} (hml : c.maxLocals = nL) {own host : String} (hown : s.vm.findClass own = some m.cls) (hT : ∀ w ∈ TT, w.before args s = true) (hK : KK D cI cJ s) {y : MethodName} {bytes : ByteArray} {f k sl lo ci idx b : Nat} {fs : List Value} {B : Nat → (Nat → Nat) → va_W} {st : List Value}
    (hM : CTR D cI cJ l y bytes f k sl lo ci fs B) (hc : Cond.code y bytes 1 none ∈ TT) (hi : Cond.instanceMethod y ∈ TT) (hini : Cond.initialized y.cls ∈ TT) (hyd : y.name = "<init>" ∧ y.cls ≠ "java/lang/invoke/MethodHandle" ∧ y.cls ≠ "java/lang/invoke/VarHandle" ∧ (parseMethodDescriptor y.desc).map (fun d => d.parameters.length) = some 0) (hl : va_Nw (.methodLinkNest own idx y host) s)
    {wr : va_W} (hP : va_P D vwCl (wr ++ [(b, .inr (ci, fs))]) H) (hD : va_D A (wr ++ [(b, .inr (ci, fs))])) (hS : va_S A H0 H locs) (hA : ∀ q, H0.size ≤ q → A q) (hR : f + 1 ≤ R.frames ∧ 8 + (1 + 11) + lo ≤ R.locals) (hsz : ls.size = nL) (hst : st = .ref b :: rest) (hcat : (rest.map fun v => v.category).sum ≤ 8) (hf : cells + k ≤ R.cells ∧ slots + sl ≤ R.slots) (hd : decode cc pc = .ok (.invokespecial idx, 3))
    (kk : ∀ (u : Nat → Nat) (H1 : Heap) (locs1 : List Loc), va_P D vwCl (wr ++ B b u) H1 → va_D A (wr ++ B b u) → va_S A H0 H1 locs1 → W p l e R s m args below meth c H1 locs1 (cells + k) (slots + sl) Q (F0 m (pc + 3) ls rest)) : W p l e R s m args below meth c H locs cells slots Q (F0 m pc ls st) := by
  subst hst
  have hPc : va_P D vwCl [(b, .inr (ci, fs))] H := fun j q hq => hP (wr.length + j) q (by rw [List.getElem?_append_right (by omega), Nat.add_sub_cancel_left]; exact hq)
  have hbA : A b := hD.2 wr.length (b, .inr (ci, fs)) (by rw [List.getElem?_append_right (by omega), Nat.sub_self]; rfl)
  have hFc : ∀ q, va_A [(b, .inr (ci, fs))] H.size q → A q := fun q h => by
    rcases h with ⟨j, e, h⟩ | h
    · have e1 := (List.getElem?_eq_some_iff.mp h).1
      simp at e1
      subst e1
      cases h
      exact hbA
    · exact hA q (Nat.le_trans hS.1 h)
  refine va_callv (va_runIN (As := []) (rest := rest) (Ts := TT) ⟨hx, hb, hml, hown, hT⟩ (hM b H.size) ⟨va_cnB 0 hT (TT_wd hc) rfl rfl rfl hl (hT _ hini) hyd.2 hR, hyd.1, hT _ hi⟩ ⟨fun a U g mk q => ⟨q.1, q.2.1, q.2.2.1.call, q.2.2.2⟩, fun U hU hW => ⟨rfl, by rw [hU], hK.warm hW, by rw [hU]; exact hPc⟩⟩ rfl rfl hsz rfl (lv_room hcat) hd hf) hS (fun q _ h => hFc q h) hFc (fun u t H1 locs1 ht hvm hw hB hz1 hk1 hS1 => ?_)
  obtain ⟨hP1, hD1⟩ := hB
  rw [ht] at hP1
  have apart : ∀ (i : Nat) (q : Nat × va_E), wr[i]? = some q → q.1 < H.size ∧ ¬ va_A [(b, .inr (ci, fs))] H.size q.1 := by
    intro i q hq
    have hi2 : (wr ++ [(b, .inr (ci, fs))])[i]? = some q := by rw [List.getElem?_append_left (List.getElem?_eq_some_iff.mp hq).1]; exact hq
    have hlt := (hP i q hi2).lt
    refine ⟨hlt, fun h => ?_⟩
    rcases h with ⟨j, e, h⟩ | h
    · have e1 := (List.getElem?_eq_some_iff.mp h).1
      simp at e1
      subst e1
      have e2 : b = q.1 := by cases h; rfl
      have e3 := hD.1 i wr.length q (b, .inr (ci, fs)) hi2 (by rw [List.getElem?_append_right (by omega), Nat.sub_self]; rfl) e2.symm
      have e4 := (List.getElem?_eq_some_iff.mp hq).1
      omega
    · omega
  refine kk u H1 locs1 (va_P.app (fun i q hq => ?_) hP1) (va_D.app ⟨fun i j x y h1 h2 h3 => ?_, fun i q hq => ?_⟩ (hD1.weaken (fun i q _ h => hFc q.1 h)) (fun i j x y h1 h2 h3 => ?_)) hS1
  · obtain ⟨g1, g2⟩ := apart i q hq
    have hi2 : (wr ++ [(b, .inr (ci, fs))])[i]? = some q := by rw [List.getElem?_append_left (List.getElem?_eq_some_iff.mp hq).1]; exact hq
    exact (hP i q hi2).kept (hk1 q.1 g1 g2)
  · have a1 : (wr ++ [(b, .inr (ci, fs))])[i]? = some x := by rw [List.getElem?_append_left (List.getElem?_eq_some_iff.mp h1).1]; exact h1
    have a2 : (wr ++ [(b, .inr (ci, fs))])[j]? = some y := by rw [List.getElem?_append_left (List.getElem?_eq_some_iff.mp h2).1]; exact h2
    exact hD.1 i j x y a1 a2 h3
  · exact hD.2 i q (by rw [List.getElem?_append_left (List.getElem?_eq_some_iff.mp hq).1]; exact hq)
  · exact (apart i x h1).2 (by rw [h3]; exact hD1.2 j y h2)
end ZCTORN
abbrev bX2 (cI : ClassId) (h : Nat) (u : Nat → Nat) : va_W := [(h, .inr (2, [.ref (u 0), .ref (u 1), .ref (u 2), .int (zi 0)])), rI (u 0) cI 12 (fun _ => 0), rI (u 1) cI 12 (fun _ => 0), rI (u 2) cI 12 (fun _ => 0)]
abbrev bX0 (cI cJ : ClassId) (h : Nat) (u : Nat → Nat) : va_W := [(h, .inr (0, [.ref (u 0), .ref (u 1), .int (zi 0)])), rI (u 0) cI 13 (fun _ => 0), rJ (u 1) cJ 13 (fun _ => 0)]
abbrev bX1 (cI : ClassId) (h : Nat) (u : Nat → Nat) : va_W := [(h, .inr (1, [.ref (u 0), .ref (u 1), .int (zi 0)])), rI (u 0) cI 10 (fun _ => 0), rI (u 1) cI 10 (fun _ => 0)]
abbrev sp0 : Nat → Int := uZ (uZ (uZ (uZ (fun _ => 0) 0 10) 1 20) 2 40) 3 80
abbrev bX3 (cI cJ : ClassId) (h : Nat) (u : Nat → Nat) : va_W := wX (fun k => if k = 0 then h else u k) cI cJ 0 (fun _ => 0) (fun _ => 0) (fun _ => 0) 0 (fun _ => 0) (fun _ => 0) 0 (fun _ => 0) (fun _ => 0) sp0 (fun _ => 0) 10 1
abbrev bX4 (cI : ClassId) (h : Nat) (u : Nat → Nat) : va_W := wM (fun k => if k = 0 then h else u k) cI 0 (fun _ => 0) (fun _ => 0) (fun _ => 0) sp0 0 (fun _ => 0) (fun _ => 0) 10 1 0 0 0 0 (fun _ => 0) (fun _ => 0) (fun _ => 0)

set_option maxHeartbeats 4000000 in
set_option maxRecDepth 100000 in
theorem c_X2_init (D : va_G) (cI cJ : ClassId) (l : Launch) : CTR D cI cJ l yX2_init cX2_init 1 3 36 12 2 [.null, .null, .null, .int 0] (bX2 cI) := by
  refine CTR.of (by decide) rfl ?_
  intro p e s m args below meth c h0 A hx hb hrt hml hown hT hlk hin hK hA hP hD hS ls hl
  refine lv_aload_n (pc := 0) hx hb dX2_init_0 rfl (lv_at hl 0 rfl) ?_
  refine W.objInit (g := F0 m 1 ls [.ref h0]) hx hb hown (hT _ tw_20) (hT _ tw_13) (hT _ tw_14) rfl (hl.1.trans hml.symm) rfl dX2_init_1 (Nat.le_of_ble_eq_true rfl) (Nat.le_of_ble_eq_true rfl) ?_
  refine W.eq (g2 := F0 m 4 ls []) rfl ?_
  refine lv_aload_n (pc := 4) hx hb dX2_init_4 rfl (lv_at hl 0 rfl) ?_
  refine z_bipush (pc := 5) hx hb dX2_init_5 (by decide) ?_
  refine z_newI (pc := 7) hx hb hT hK hP hD hS hA 12 (by omega) (Nat.le_of_ble_eq_true rfl) (Nat.le_of_ble_eq_true rfl) (by rfl) dX2_init_7 (fun q1 H hP hD hS => ?_)
  replace hP : va_P D vwCl [(h0, .inr (2, [.null, .null, .null, .int 0])), rI q1 cI 12 (fun _ => 0)] H := hP
  replace hD : va_D A [(h0, .inr (2, [.null, .null, .null, .int 0])), rI q1 cI 12 (fun _ => 0)] := hD
  refine va_putF (D := D) (cl := vwCl) (ci := 2) (v := .ref q1) (ty := .array .int) (C := RX2) (T := TX2) (N := 4) (pc := 9) hx hb hT inT2 tyX2 tyX2_ok nmX2 hown hK.1 hP hD hS 0 rfl rfl 0 (by decide) (hT _ tw_21) (fun _ h9 => h9) rfl hin rfl (by decide +kernel) rfl rfl (Nat.le_of_ble_eq_true rfl) dX2_init_9 (fun H locs hP hD hS => ?_)
  replace hP : va_P D vwCl [(h0, .inr (2, [.ref q1, .null, .null, .int 0])), rI q1 cI 12 (fun _ => 0)] H := hP
  replace hD : va_D A [(h0, .inr (2, [.ref q1, .null, .null, .int 0])), rI q1 cI 12 (fun _ => 0)] := hD
  refine lv_aload_n (pc := 12) hx hb dX2_init_12 rfl (lv_at hl 0 rfl) ?_
  refine z_bipush (pc := 13) hx hb dX2_init_13 (by decide) ?_
  refine z_newI (pc := 15) hx hb hT hK hP hD hS hA 12 (by omega) (Nat.le_of_ble_eq_true rfl) (Nat.le_of_ble_eq_true rfl) (by rfl) dX2_init_15 (fun q2 H hP hD hS => ?_)
  replace hP : va_P D vwCl [(h0, .inr (2, [.ref q1, .null, .null, .int 0])), rI q1 cI 12 (fun _ => 0), rI q2 cI 12 (fun _ => 0)] H := hP
  replace hD : va_D A [(h0, .inr (2, [.ref q1, .null, .null, .int 0])), rI q1 cI 12 (fun _ => 0), rI q2 cI 12 (fun _ => 0)] := hD
  refine va_putF (D := D) (cl := vwCl) (ci := 2) (v := .ref q2) (ty := .array .int) (C := RX2) (T := TX2) (N := 4) (pc := 17) hx hb hT inT2 tyX2 tyX2_ok nmX2 hown hK.1 hP hD hS 0 rfl rfl 1 (by decide) (hT _ tw_23) (fun _ h9 => h9) rfl hin rfl (by decide +kernel) rfl rfl (Nat.le_of_ble_eq_true rfl) dX2_init_17 (fun H locs hP hD hS => ?_)
  replace hP : va_P D vwCl [(h0, .inr (2, [.ref q1, .ref q2, .null, .int 0])), rI q1 cI 12 (fun _ => 0), rI q2 cI 12 (fun _ => 0)] H := hP
  replace hD : va_D A [(h0, .inr (2, [.ref q1, .ref q2, .null, .int 0])), rI q1 cI 12 (fun _ => 0), rI q2 cI 12 (fun _ => 0)] := hD
  refine lv_aload_n (pc := 20) hx hb dX2_init_20 rfl (lv_at hl 0 rfl) ?_
  refine z_bipush (pc := 21) hx hb dX2_init_21 (by decide) ?_
  refine z_newI (pc := 23) hx hb hT hK hP hD hS hA 12 (by omega) (Nat.le_of_ble_eq_true rfl) (Nat.le_of_ble_eq_true rfl) (by rfl) dX2_init_23 (fun q3 H hP hD hS => ?_)
  replace hP : va_P D vwCl [(h0, .inr (2, [.ref q1, .ref q2, .null, .int 0])), rI q1 cI 12 (fun _ => 0), rI q2 cI 12 (fun _ => 0), rI q3 cI 12 (fun _ => 0)] H := hP
  replace hD : va_D A [(h0, .inr (2, [.ref q1, .ref q2, .null, .int 0])), rI q1 cI 12 (fun _ => 0), rI q2 cI 12 (fun _ => 0), rI q3 cI 12 (fun _ => 0)] := hD
  refine va_putF (D := D) (cl := vwCl) (ci := 2) (v := .ref q3) (ty := .array .int) (C := RX2) (T := TX2) (N := 4) (pc := 25) hx hb hT inT2 tyX2 tyX2_ok nmX2 hown hK.1 hP hD hS 0 rfl rfl 2 (by decide) (hT _ tw_25) (fun _ h9 => h9) rfl hin rfl (by decide +kernel) rfl rfl (Nat.le_of_ble_eq_true rfl) dX2_init_25 (fun H locs hP hD hS => ?_)
  replace hP : va_P D vwCl [(h0, .inr (2, [.ref q1, .ref q2, .ref q3, .int 0])), rI q1 cI 12 (fun _ => 0), rI q2 cI 12 (fun _ => 0), rI q3 cI 12 (fun _ => 0)] H := hP
  replace hD : va_D A [(h0, .inr (2, [.ref q1, .ref q2, .ref q3, .int 0])), rI q1 cI 12 (fun _ => 0), rI q2 cI 12 (fun _ => 0), rI q3 cI 12 (fun _ => 0)] := hD
  refine lv_aload_n (pc := 28) hx hb dX2_init_28 rfl (lv_at hl 0 rfl) ?_
  refine z_iconst (pc := 29) hx hb dX2_init_29 ?_
  refine va_put (D := D) (cl := vwCl) (ci := 2) (v := .int (zi (0))) (ty := .int) (C := RX2) (T := TX2) (N := 4) (pc := 30) hx hb hT inT2 tyX2 tyX2_ok nmX2 hown hK.1 hP hD hS 0 rfl rfl 3 (by decide) (hT _ tw_27) (fun _ h9 => h9) rfl (by decide +kernel) rfl rfl (Nat.le_of_ble_eq_true rfl) dX2_init_30 (fun H locs hP hD hS => ?_)
  replace hP : va_P D vwCl [(h0, .inr (2, [.ref q1, .ref q2, .ref q3, .int (zi (0))])), rI q1 cI 12 (fun _ => 0), rI q2 cI 12 (fun _ => 0), rI q3 cI 12 (fun _ => 0)] H := hP
  replace hD : va_D A [(h0, .inr (2, [.ref q1, .ref q2, .ref q3, .int (zi (0))])), rI q1 cI 12 (fun _ => 0), rI q2 cI 12 (fun _ => 0), rI q3 cI 12 (fun _ => 0)] := hD
  exact ct_ret (B := bX2 cI h0) hx hb hrt hlk (fun k => [q1, q2, q3].getD k 0) dX2_init_33 hP hD hS

set_option maxHeartbeats 4000000 in
set_option maxRecDepth 100000 in
theorem c_X0_init (D : va_G) (cI cJ : ClassId) (l : Launch) : CTR D cI cJ l yX0_init cX0_init 1 2 26 12 0 [.null, .null, .int 0] (bX0 cI cJ) := by
  refine CTR.of (by decide) rfl ?_
  intro p e s m args below meth c h0 A hx hb hrt hml hown hT hlk hin hK hA hP hD hS ls hl
  refine lv_aload_n (pc := 0) hx hb dX0_init_0 rfl (lv_at hl 0 rfl) ?_
  refine W.objInit (g := F0 m 1 ls [.ref h0]) hx hb hown (hT _ tw_44) (hT _ tw_13) (hT _ tw_14) rfl (hl.1.trans hml.symm) rfl dX0_init_1 (Nat.le_of_ble_eq_true rfl) (Nat.le_of_ble_eq_true rfl) ?_
  refine W.eq (g2 := F0 m 4 ls []) rfl ?_
  refine lv_aload_n (pc := 4) hx hb dX0_init_4 rfl (lv_at hl 0 rfl) ?_
  refine z_bipush (pc := 5) hx hb dX0_init_5 (by decide) ?_
  refine z_newI (pc := 7) hx hb hT hK hP hD hS hA 13 (by omega) (Nat.le_of_ble_eq_true rfl) (Nat.le_of_ble_eq_true rfl) (by rfl) dX0_init_7 (fun q1 H hP hD hS => ?_)
  replace hP : va_P D vwCl [(h0, .inr (0, [.null, .null, .int 0])), rI q1 cI 13 (fun _ => 0)] H := hP
  replace hD : va_D A [(h0, .inr (0, [.null, .null, .int 0])), rI q1 cI 13 (fun _ => 0)] := hD
  refine va_putF (D := D) (cl := vwCl) (ci := 0) (v := .ref q1) (ty := .array .int) (C := RX0) (T := TX0) (N := 3) (pc := 9) hx hb hT inT0 tyX0 tyX0_ok nmX0 hown hK.1 hP hD hS 0 rfl rfl 0 (by decide) (hT _ tw_45) (fun _ h9 => h9) rfl hin rfl (by decide +kernel) rfl rfl (Nat.le_of_ble_eq_true rfl) dX0_init_9 (fun H locs hP hD hS => ?_)
  replace hP : va_P D vwCl [(h0, .inr (0, [.ref q1, .null, .int 0])), rI q1 cI 13 (fun _ => 0)] H := hP
  replace hD : va_D A [(h0, .inr (0, [.ref q1, .null, .int 0])), rI q1 cI 13 (fun _ => 0)] := hD
  refine lv_aload_n (pc := 12) hx hb dX0_init_12 rfl (lv_at hl 0 rfl) ?_
  refine z_bipush (pc := 13) hx hb dX0_init_13 (by decide) ?_
  refine z_newJ (pc := 15) hx hb hT hK hP hD hS hA 13 (by omega) (Nat.le_of_ble_eq_true rfl) (Nat.le_of_ble_eq_true rfl) (by rfl) dX0_init_15 (fun q2 H hP hD hS => ?_)
  replace hP : va_P D vwCl [(h0, .inr (0, [.ref q1, .null, .int 0])), rI q1 cI 13 (fun _ => 0), rJ q2 cJ 13 (fun _ => 0)] H := hP
  replace hD : va_D A [(h0, .inr (0, [.ref q1, .null, .int 0])), rI q1 cI 13 (fun _ => 0), rJ q2 cJ 13 (fun _ => 0)] := hD
  refine va_putF (D := D) (cl := vwCl) (ci := 0) (v := .ref q2) (ty := .array .long) (C := RX0) (T := TX0) (N := 3) (pc := 17) hx hb hT inT0 tyX0 tyX0_ok nmX0 hown hK.1 hP hD hS 0 rfl rfl 1 (by decide) (hT _ tw_46) (fun _ h9 => h9) rfl hin rfl (by decide +kernel) rfl rfl (Nat.le_of_ble_eq_true rfl) dX0_init_17 (fun H locs hP hD hS => ?_)
  replace hP : va_P D vwCl [(h0, .inr (0, [.ref q1, .ref q2, .int 0])), rI q1 cI 13 (fun _ => 0), rJ q2 cJ 13 (fun _ => 0)] H := hP
  replace hD : va_D A [(h0, .inr (0, [.ref q1, .ref q2, .int 0])), rI q1 cI 13 (fun _ => 0), rJ q2 cJ 13 (fun _ => 0)] := hD
  refine lv_aload_n (pc := 20) hx hb dX0_init_20 rfl (lv_at hl 0 rfl) ?_
  refine z_iconst (pc := 21) hx hb dX0_init_21 ?_
  refine va_put (D := D) (cl := vwCl) (ci := 0) (v := .int (zi (0))) (ty := .int) (C := RX0) (T := TX0) (N := 3) (pc := 22) hx hb hT inT0 tyX0 tyX0_ok nmX0 hown hK.1 hP hD hS 0 rfl rfl 2 (by decide) (hT _ tw_47) (fun _ h9 => h9) rfl (by decide +kernel) rfl rfl (Nat.le_of_ble_eq_true rfl) dX0_init_22 (fun H locs hP hD hS => ?_)
  replace hP : va_P D vwCl [(h0, .inr (0, [.ref q1, .ref q2, .int (zi (0))])), rI q1 cI 13 (fun _ => 0), rJ q2 cJ 13 (fun _ => 0)] H := hP
  replace hD : va_D A [(h0, .inr (0, [.ref q1, .ref q2, .int (zi (0))])), rI q1 cI 13 (fun _ => 0), rJ q2 cJ 13 (fun _ => 0)] := hD
  exact ct_ret (B := bX0 cI cJ h0) hx hb hrt hlk (fun k => [q1, q2].getD k 0) dX0_init_25 hP hD hS

set_option maxHeartbeats 4000000 in
set_option maxRecDepth 100000 in
theorem c_X1_init (D : va_G) (cI cJ : ClassId) (l : Launch) : CTR D cI cJ l yX1_init cX1_init 1 2 20 12 1 [.null, .null, .int 0] (bX1 cI) := by
  refine CTR.of (by decide) rfl ?_
  intro p e s m args below meth c h0 A hx hb hrt hml hown hT hlk hin hK hA hP hD hS ls hl
  refine lv_aload_n (pc := 0) hx hb dX1_init_0 rfl (lv_at hl 0 rfl) ?_
  refine W.objInit (g := F0 m 1 ls [.ref h0]) hx hb hown (hT _ tw_61) (hT _ tw_13) (hT _ tw_14) rfl (hl.1.trans hml.symm) rfl dX1_init_1 (Nat.le_of_ble_eq_true rfl) (Nat.le_of_ble_eq_true rfl) ?_
  refine W.eq (g2 := F0 m 4 ls []) rfl ?_
  refine lv_aload_n (pc := 4) hx hb dX1_init_4 rfl (lv_at hl 0 rfl) ?_
  refine z_bipush (pc := 5) hx hb dX1_init_5 (by decide) ?_
  refine z_newI (pc := 7) hx hb hT hK hP hD hS hA 10 (by omega) (Nat.le_of_ble_eq_true rfl) (Nat.le_of_ble_eq_true rfl) (by rfl) dX1_init_7 (fun q1 H hP hD hS => ?_)
  replace hP : va_P D vwCl [(h0, .inr (1, [.null, .null, .int 0])), rI q1 cI 10 (fun _ => 0)] H := hP
  replace hD : va_D A [(h0, .inr (1, [.null, .null, .int 0])), rI q1 cI 10 (fun _ => 0)] := hD
  refine va_putF (D := D) (cl := vwCl) (ci := 1) (v := .ref q1) (ty := .array .int) (C := RX1) (T := TX1) (N := 3) (pc := 9) hx hb hT inT1 tyX1 tyX1_ok nmX1 hown hK.1 hP hD hS 0 rfl rfl 0 (by decide) (hT _ tw_62) (fun _ h9 => h9) rfl hin rfl (by decide +kernel) rfl rfl (Nat.le_of_ble_eq_true rfl) dX1_init_9 (fun H locs hP hD hS => ?_)
  replace hP : va_P D vwCl [(h0, .inr (1, [.ref q1, .null, .int 0])), rI q1 cI 10 (fun _ => 0)] H := hP
  replace hD : va_D A [(h0, .inr (1, [.ref q1, .null, .int 0])), rI q1 cI 10 (fun _ => 0)] := hD
  refine lv_aload_n (pc := 12) hx hb dX1_init_12 rfl (lv_at hl 0 rfl) ?_
  refine z_bipush (pc := 13) hx hb dX1_init_13 (by decide) ?_
  refine z_newI (pc := 15) hx hb hT hK hP hD hS hA 10 (by omega) (Nat.le_of_ble_eq_true rfl) (Nat.le_of_ble_eq_true rfl) (by rfl) dX1_init_15 (fun q2 H hP hD hS => ?_)
  replace hP : va_P D vwCl [(h0, .inr (1, [.ref q1, .null, .int 0])), rI q1 cI 10 (fun _ => 0), rI q2 cI 10 (fun _ => 0)] H := hP
  replace hD : va_D A [(h0, .inr (1, [.ref q1, .null, .int 0])), rI q1 cI 10 (fun _ => 0), rI q2 cI 10 (fun _ => 0)] := hD
  refine va_putF (D := D) (cl := vwCl) (ci := 1) (v := .ref q2) (ty := .array .int) (C := RX1) (T := TX1) (N := 3) (pc := 17) hx hb hT inT1 tyX1 tyX1_ok nmX1 hown hK.1 hP hD hS 0 rfl rfl 1 (by decide) (hT _ tw_64) (fun _ h9 => h9) rfl hin rfl (by decide +kernel) rfl rfl (Nat.le_of_ble_eq_true rfl) dX1_init_17 (fun H locs hP hD hS => ?_)
  replace hP : va_P D vwCl [(h0, .inr (1, [.ref q1, .ref q2, .int 0])), rI q1 cI 10 (fun _ => 0), rI q2 cI 10 (fun _ => 0)] H := hP
  replace hD : va_D A [(h0, .inr (1, [.ref q1, .ref q2, .int 0])), rI q1 cI 10 (fun _ => 0), rI q2 cI 10 (fun _ => 0)] := hD
  refine lv_aload_n (pc := 20) hx hb dX1_init_20 rfl (lv_at hl 0 rfl) ?_
  refine z_iconst (pc := 21) hx hb dX1_init_21 ?_
  refine va_put (D := D) (cl := vwCl) (ci := 1) (v := .int (zi (0))) (ty := .int) (C := RX1) (T := TX1) (N := 3) (pc := 22) hx hb hT inT1 tyX1 tyX1_ok nmX1 hown hK.1 hP hD hS 0 rfl rfl 2 (by decide) (hT _ tw_66) (fun _ h9 => h9) rfl (by decide +kernel) rfl rfl (Nat.le_of_ble_eq_true rfl) dX1_init_22 (fun H locs hP hD hS => ?_)
  replace hP : va_P D vwCl [(h0, .inr (1, [.ref q1, .ref q2, .int (zi (0))])), rI q1 cI 10 (fun _ => 0), rI q2 cI 10 (fun _ => 0)] H := hP
  replace hD : va_D A [(h0, .inr (1, [.ref q1, .ref q2, .int (zi (0))])), rI q1 cI 10 (fun _ => 0), rI q2 cI 10 (fun _ => 0)] := hD
  exact ct_ret (B := bX1 cI h0) hx hb hrt hlk (fun k => [q1, q2].getD k 0) dX1_init_25 hP hD hS

set_option maxHeartbeats 4000000 in
set_option maxRecDepth 100000 in
theorem c_X3_init (D : va_G) (cI cJ : ClassId) (l : Launch) : CTR D cI cJ l yX3_init cX3_init 2 12 100 32 3 [.null, .null, .null, .null, .null, .int 0, .int 0] (bX3 cI cJ) := by
  refine CTR.of (by decide) rfl ?_
  intro p e s m args below meth c h0 A hx hb hrt hml hown hT hlk hin hK hA hP hD hS ls hl
  refine lv_aload_n (pc := 0) hx hb dX3_init_0 rfl (lv_at hl 0 rfl) ?_
  refine W.objInit (g := F0 m 1 ls [.ref h0]) hx hb hown (hT _ tw_12) (hT _ tw_13) (hT _ tw_14) rfl (hl.1.trans hml.symm) rfl dX3_init_1 (Nat.le_of_ble_eq_true rfl) (Nat.le_of_ble_eq_true rfl) ?_
  refine W.eq (g2 := F0 m 4 ls []) rfl ?_
  refine lv_aload_n (pc := 4) hx hb dX3_init_4 rfl (lv_at hl 0 rfl) ?_
  refine va_new (ci := 2) (fs := [.null, .null, .null, .int 0]) (C := RX2) (T := TX2) (N := 4) (pc := 5) hx hb hT inT2 tyX2 tyX2_ok hown (hT _ tw_15) (hT _ tw_16) (hT _ tw_2) hK.1 hP hD hS hA rfl (fun j hj => by rcases (show j = 0 ∨ j = 1 ∨ j = 2 ∨ j = 3 by omega) with rfl | rfl | rfl | rfl <;> rfl) (Nat.le_of_ble_eq_true rfl) (Nat.le_of_ble_eq_true rfl) dX3_init_5 (fun q1 H hP hD hS => ?_)
  replace hP : va_P D vwCl [(h0, .inr (3, [.null, .null, .null, .null, .null, .int 0, .int 0])), (q1, .inr (2, [.null, .null, .null, .int 0]))] H := hP
  replace hD : va_D A [(h0, .inr (3, [.null, .null, .null, .null, .null, .int 0, .int 0])), (q1, .inr (2, [.null, .null, .null, .int 0]))] := hD
  refine lv_dup (pc := 8) hx hb dX3_init_8 rfl ?_
  refine ct_IN (pc := 9) (wr := [(h0, .inr (3, [.null, .null, .null, .null, .null, .int 0, .int 0]))]) (rest := [.ref q1, .ref h0]) hx hb hml hown hT hK (c_X2_init D cI cJ l) tw_19 tw_18 tw_2 (by decide +kernel) hK.2.1 hP hD hS hA ⟨Nat.le_of_ble_eq_true rfl, Nat.le_of_ble_eq_true rfl⟩ hl.1 rfl (Nat.le_of_ble_eq_true rfl) ⟨Nat.le_of_ble_eq_true rfl, Nat.le_of_ble_eq_true rfl⟩ dX3_init_9 (fun u2 H locs hP hD hS => ?_)
  replace hP : va_P D vwCl [(h0, .inr (3, [.null, .null, .null, .null, .null, .int 0, .int 0])), (q1, .inr (2, [.ref (u2 0), .ref (u2 1), .ref (u2 2), .int (zi 0)])), rI (u2 0) cI 12 (fun _ => 0), rI (u2 1) cI 12 (fun _ => 0), rI (u2 2) cI 12 (fun _ => 0)] H := hP
  replace hD : va_D A [(h0, .inr (3, [.null, .null, .null, .null, .null, .int 0, .int 0])), (q1, .inr (2, [.ref (u2 0), .ref (u2 1), .ref (u2 2), .int (zi 0)])), rI (u2 0) cI 12 (fun _ => 0), rI (u2 1) cI 12 (fun _ => 0), rI (u2 2) cI 12 (fun _ => 0)] := hD
  refine va_putF (D := D) (cl := vwCl) (ci := 3) (v := .ref q1) (ty := .object "TriedHarder$Units") (C := RX3) (T := TX3) (N := 7) (pc := 12) hx hb hT inT3 tyX3 tyX3_ok nmX3 hown hK.1 hP hD hS 0 rfl rfl 0 (by decide) (hT _ tw_75) (fun _ h9 => h9) rfl hin rfl (by decide +kernel) rfl rfl (Nat.le_of_ble_eq_true rfl) dX3_init_12 (fun H locs hP hD hS => ?_)
  replace hP : va_P D vwCl [(h0, .inr (3, [.ref q1, .null, .null, .null, .null, .int 0, .int 0])), (q1, .inr (2, [.ref (u2 0), .ref (u2 1), .ref (u2 2), .int (zi 0)])), rI (u2 0) cI 12 (fun _ => 0), rI (u2 1) cI 12 (fun _ => 0), rI (u2 2) cI 12 (fun _ => 0)] H := hP
  replace hD : va_D A [(h0, .inr (3, [.ref q1, .null, .null, .null, .null, .int 0, .int 0])), (q1, .inr (2, [.ref (u2 0), .ref (u2 1), .ref (u2 2), .int (zi 0)])), rI (u2 0) cI 12 (fun _ => 0), rI (u2 1) cI 12 (fun _ => 0), rI (u2 2) cI 12 (fun _ => 0)] := hD
  refine lv_aload_n (pc := 15) hx hb dX3_init_15 rfl (lv_at hl 0 rfl) ?_
  refine va_new (ci := 0) (fs := [.null, .null, .int 0]) (C := RX0) (T := TX0) (N := 3) (pc := 16) hx hb hT inT0 tyX0 tyX0_ok hown (hT _ tw_39) (hT _ tw_40) (hT _ tw_3) hK.1 hP hD hS hA rfl (fun j hj => by rcases (show j = 0 ∨ j = 1 ∨ j = 2 by omega) with rfl | rfl | rfl <;> rfl) (Nat.le_of_ble_eq_true rfl) (Nat.le_of_ble_eq_true rfl) dX3_init_16 (fun q3 H hP hD hS => ?_)
  replace hP : va_P D vwCl [(h0, .inr (3, [.ref q1, .null, .null, .null, .null, .int 0, .int 0])), (q1, .inr (2, [.ref (u2 0), .ref (u2 1), .ref (u2 2), .int (zi 0)])), rI (u2 0) cI 12 (fun _ => 0), rI (u2 1) cI 12 (fun _ => 0), rI (u2 2) cI 12 (fun _ => 0), (q3, .inr (0, [.null, .null, .int 0]))] H := hP
  replace hD : va_D A [(h0, .inr (3, [.ref q1, .null, .null, .null, .null, .int 0, .int 0])), (q1, .inr (2, [.ref (u2 0), .ref (u2 1), .ref (u2 2), .int (zi 0)])), rI (u2 0) cI 12 (fun _ => 0), rI (u2 1) cI 12 (fun _ => 0), rI (u2 2) cI 12 (fun _ => 0), (q3, .inr (0, [.null, .null, .int 0]))] := hD
  refine lv_dup (pc := 19) hx hb dX3_init_19 rfl ?_
  refine ct_IN (pc := 20) (wr := [(h0, .inr (3, [.ref q1, .null, .null, .null, .null, .int 0, .int 0])), (q1, .inr (2, [.ref (u2 0), .ref (u2 1), .ref (u2 2), .int (zi 0)])), rI (u2 0) cI 12 (fun _ => 0), rI (u2 1) cI 12 (fun _ => 0), rI (u2 2) cI 12 (fun _ => 0)]) (rest := [.ref q3, .ref h0]) hx hb hml hown hT hK (c_X0_init D cI cJ l) tw_43 tw_42 tw_3 (by decide +kernel) hK.2.2.1 hP hD hS hA ⟨Nat.le_of_ble_eq_true rfl, Nat.le_of_ble_eq_true rfl⟩ hl.1 rfl (Nat.le_of_ble_eq_true rfl) ⟨Nat.le_of_ble_eq_true rfl, Nat.le_of_ble_eq_true rfl⟩ dX3_init_20 (fun u4 H locs hP hD hS => ?_)
  replace hP : va_P D vwCl [(h0, .inr (3, [.ref q1, .null, .null, .null, .null, .int 0, .int 0])), (q1, .inr (2, [.ref (u2 0), .ref (u2 1), .ref (u2 2), .int (zi 0)])), rI (u2 0) cI 12 (fun _ => 0), rI (u2 1) cI 12 (fun _ => 0), rI (u2 2) cI 12 (fun _ => 0), (q3, .inr (0, [.ref (u4 0), .ref (u4 1), .int (zi 0)])), rI (u4 0) cI 13 (fun _ => 0), rJ (u4 1) cJ 13 (fun _ => 0)] H := hP
  replace hD : va_D A [(h0, .inr (3, [.ref q1, .null, .null, .null, .null, .int 0, .int 0])), (q1, .inr (2, [.ref (u2 0), .ref (u2 1), .ref (u2 2), .int (zi 0)])), rI (u2 0) cI 12 (fun _ => 0), rI (u2 1) cI 12 (fun _ => 0), rI (u2 2) cI 12 (fun _ => 0), (q3, .inr (0, [.ref (u4 0), .ref (u4 1), .int (zi 0)])), rI (u4 0) cI 13 (fun _ => 0), rJ (u4 1) cJ 13 (fun _ => 0)] := hD
  refine va_putF (D := D) (cl := vwCl) (ci := 3) (v := .ref q3) (ty := .object "TriedHarder$Standing") (C := RX3) (T := TX3) (N := 7) (pc := 23) hx hb hT inT3 tyX3 tyX3_ok nmX3 hown hK.1 hP hD hS 0 rfl rfl 1 (by decide) (hT _ tw_76) (fun _ h9 => h9) rfl hin rfl (by decide +kernel) rfl rfl (Nat.le_of_ble_eq_true rfl) dX3_init_23 (fun H locs hP hD hS => ?_)
  replace hP : va_P D vwCl [(h0, .inr (3, [.ref q1, .ref q3, .null, .null, .null, .int 0, .int 0])), (q1, .inr (2, [.ref (u2 0), .ref (u2 1), .ref (u2 2), .int (zi 0)])), rI (u2 0) cI 12 (fun _ => 0), rI (u2 1) cI 12 (fun _ => 0), rI (u2 2) cI 12 (fun _ => 0), (q3, .inr (0, [.ref (u4 0), .ref (u4 1), .int (zi 0)])), rI (u4 0) cI 13 (fun _ => 0), rJ (u4 1) cJ 13 (fun _ => 0)] H := hP
  replace hD : va_D A [(h0, .inr (3, [.ref q1, .ref q3, .null, .null, .null, .int 0, .int 0])), (q1, .inr (2, [.ref (u2 0), .ref (u2 1), .ref (u2 2), .int (zi 0)])), rI (u2 0) cI 12 (fun _ => 0), rI (u2 1) cI 12 (fun _ => 0), rI (u2 2) cI 12 (fun _ => 0), (q3, .inr (0, [.ref (u4 0), .ref (u4 1), .int (zi 0)])), rI (u4 0) cI 13 (fun _ => 0), rJ (u4 1) cJ 13 (fun _ => 0)] := hD
  refine lv_aload_n (pc := 26) hx hb dX3_init_26 rfl (lv_at hl 0 rfl) ?_
  refine va_new (ci := 1) (fs := [.null, .null, .int 0]) (C := RX1) (T := TX1) (N := 3) (pc := 27) hx hb hT inT1 tyX1 tyX1_ok hown (hT _ tw_56) (hT _ tw_57) (hT _ tw_4) hK.1 hP hD hS hA rfl (fun j hj => by rcases (show j = 0 ∨ j = 1 ∨ j = 2 by omega) with rfl | rfl | rfl <;> rfl) (Nat.le_of_ble_eq_true rfl) (Nat.le_of_ble_eq_true rfl) dX3_init_27 (fun q5 H hP hD hS => ?_)
  replace hP : va_P D vwCl [(h0, .inr (3, [.ref q1, .ref q3, .null, .null, .null, .int 0, .int 0])), (q1, .inr (2, [.ref (u2 0), .ref (u2 1), .ref (u2 2), .int (zi 0)])), rI (u2 0) cI 12 (fun _ => 0), rI (u2 1) cI 12 (fun _ => 0), rI (u2 2) cI 12 (fun _ => 0), (q3, .inr (0, [.ref (u4 0), .ref (u4 1), .int (zi 0)])), rI (u4 0) cI 13 (fun _ => 0), rJ (u4 1) cJ 13 (fun _ => 0), (q5, .inr (1, [.null, .null, .int 0]))] H := hP
  replace hD : va_D A [(h0, .inr (3, [.ref q1, .ref q3, .null, .null, .null, .int 0, .int 0])), (q1, .inr (2, [.ref (u2 0), .ref (u2 1), .ref (u2 2), .int (zi 0)])), rI (u2 0) cI 12 (fun _ => 0), rI (u2 1) cI 12 (fun _ => 0), rI (u2 2) cI 12 (fun _ => 0), (q3, .inr (0, [.ref (u4 0), .ref (u4 1), .int (zi 0)])), rI (u4 0) cI 13 (fun _ => 0), rJ (u4 1) cJ 13 (fun _ => 0), (q5, .inr (1, [.null, .null, .int 0]))] := hD
  refine lv_dup (pc := 30) hx hb dX3_init_30 rfl ?_
  refine ct_IN (pc := 31) (wr := [(h0, .inr (3, [.ref q1, .ref q3, .null, .null, .null, .int 0, .int 0])), (q1, .inr (2, [.ref (u2 0), .ref (u2 1), .ref (u2 2), .int (zi 0)])), rI (u2 0) cI 12 (fun _ => 0), rI (u2 1) cI 12 (fun _ => 0), rI (u2 2) cI 12 (fun _ => 0), (q3, .inr (0, [.ref (u4 0), .ref (u4 1), .int (zi 0)])), rI (u4 0) cI 13 (fun _ => 0), rJ (u4 1) cJ 13 (fun _ => 0)]) (rest := [.ref q5, .ref h0]) hx hb hml hown hT hK (c_X1_init D cI cJ l) tw_60 tw_59 tw_4 (by decide +kernel) hK.2.2.2.1 hP hD hS hA ⟨Nat.le_of_ble_eq_true rfl, Nat.le_of_ble_eq_true rfl⟩ hl.1 rfl (Nat.le_of_ble_eq_true rfl) ⟨Nat.le_of_ble_eq_true rfl, Nat.le_of_ble_eq_true rfl⟩ dX3_init_31 (fun u6 H locs hP hD hS => ?_)
  replace hP : va_P D vwCl [(h0, .inr (3, [.ref q1, .ref q3, .null, .null, .null, .int 0, .int 0])), (q1, .inr (2, [.ref (u2 0), .ref (u2 1), .ref (u2 2), .int (zi 0)])), rI (u2 0) cI 12 (fun _ => 0), rI (u2 1) cI 12 (fun _ => 0), rI (u2 2) cI 12 (fun _ => 0), (q3, .inr (0, [.ref (u4 0), .ref (u4 1), .int (zi 0)])), rI (u4 0) cI 13 (fun _ => 0), rJ (u4 1) cJ 13 (fun _ => 0), (q5, .inr (1, [.ref (u6 0), .ref (u6 1), .int (zi 0)])), rI (u6 0) cI 10 (fun _ => 0), rI (u6 1) cI 10 (fun _ => 0)] H := hP
  replace hD : va_D A [(h0, .inr (3, [.ref q1, .ref q3, .null, .null, .null, .int 0, .int 0])), (q1, .inr (2, [.ref (u2 0), .ref (u2 1), .ref (u2 2), .int (zi 0)])), rI (u2 0) cI 12 (fun _ => 0), rI (u2 1) cI 12 (fun _ => 0), rI (u2 2) cI 12 (fun _ => 0), (q3, .inr (0, [.ref (u4 0), .ref (u4 1), .int (zi 0)])), rI (u4 0) cI 13 (fun _ => 0), rJ (u4 1) cJ 13 (fun _ => 0), (q5, .inr (1, [.ref (u6 0), .ref (u6 1), .int (zi 0)])), rI (u6 0) cI 10 (fun _ => 0), rI (u6 1) cI 10 (fun _ => 0)] := hD
  refine va_putF (D := D) (cl := vwCl) (ci := 3) (v := .ref q5) (ty := .object "TriedHarder$Trial") (C := RX3) (T := TX3) (N := 7) (pc := 34) hx hb hT inT3 tyX3 tyX3_ok nmX3 hown hK.1 hP hD hS 0 rfl rfl 2 (by decide) (hT _ tw_77) (fun _ h9 => h9) rfl hin rfl (by decide +kernel) rfl rfl (Nat.le_of_ble_eq_true rfl) dX3_init_34 (fun H locs hP hD hS => ?_)
  replace hP : va_P D vwCl [(h0, .inr (3, [.ref q1, .ref q3, .ref q5, .null, .null, .int 0, .int 0])), (q1, .inr (2, [.ref (u2 0), .ref (u2 1), .ref (u2 2), .int (zi 0)])), rI (u2 0) cI 12 (fun _ => 0), rI (u2 1) cI 12 (fun _ => 0), rI (u2 2) cI 12 (fun _ => 0), (q3, .inr (0, [.ref (u4 0), .ref (u4 1), .int (zi 0)])), rI (u4 0) cI 13 (fun _ => 0), rJ (u4 1) cJ 13 (fun _ => 0), (q5, .inr (1, [.ref (u6 0), .ref (u6 1), .int (zi 0)])), rI (u6 0) cI 10 (fun _ => 0), rI (u6 1) cI 10 (fun _ => 0)] H := hP
  replace hD : va_D A [(h0, .inr (3, [.ref q1, .ref q3, .ref q5, .null, .null, .int 0, .int 0])), (q1, .inr (2, [.ref (u2 0), .ref (u2 1), .ref (u2 2), .int (zi 0)])), rI (u2 0) cI 12 (fun _ => 0), rI (u2 1) cI 12 (fun _ => 0), rI (u2 2) cI 12 (fun _ => 0), (q3, .inr (0, [.ref (u4 0), .ref (u4 1), .int (zi 0)])), rI (u4 0) cI 13 (fun _ => 0), rJ (u4 1) cJ 13 (fun _ => 0), (q5, .inr (1, [.ref (u6 0), .ref (u6 1), .int (zi 0)])), rI (u6 0) cI 10 (fun _ => 0), rI (u6 1) cI 10 (fun _ => 0)] := hD
  refine lv_aload_n (pc := 37) hx hb dX3_init_37 rfl (lv_at hl 0 rfl) ?_
  refine z_iconst (pc := 38) hx hb dX3_init_38 ?_
  refine z_newI (pc := 39) hx hb hT hK hP hD hS hA 4 (by omega) (Nat.le_of_ble_eq_true rfl) (Nat.le_of_ble_eq_true rfl) (by rfl) dX3_init_39 (fun q7 H hP hD hS => ?_)
  replace hP : va_P D vwCl [(h0, .inr (3, [.ref q1, .ref q3, .ref q5, .null, .null, .int 0, .int 0])), (q1, .inr (2, [.ref (u2 0), .ref (u2 1), .ref (u2 2), .int (zi 0)])), rI (u2 0) cI 12 (fun _ => 0), rI (u2 1) cI 12 (fun _ => 0), rI (u2 2) cI 12 (fun _ => 0), (q3, .inr (0, [.ref (u4 0), .ref (u4 1), .int (zi 0)])), rI (u4 0) cI 13 (fun _ => 0), rJ (u4 1) cJ 13 (fun _ => 0), (q5, .inr (1, [.ref (u6 0), .ref (u6 1), .int (zi 0)])), rI (u6 0) cI 10 (fun _ => 0), rI (u6 1) cI 10 (fun _ => 0), rI q7 cI 4 (fun _ => 0)] H := hP
  replace hD : va_D A [(h0, .inr (3, [.ref q1, .ref q3, .ref q5, .null, .null, .int 0, .int 0])), (q1, .inr (2, [.ref (u2 0), .ref (u2 1), .ref (u2 2), .int (zi 0)])), rI (u2 0) cI 12 (fun _ => 0), rI (u2 1) cI 12 (fun _ => 0), rI (u2 2) cI 12 (fun _ => 0), (q3, .inr (0, [.ref (u4 0), .ref (u4 1), .int (zi 0)])), rI (u4 0) cI 13 (fun _ => 0), rJ (u4 1) cJ 13 (fun _ => 0), (q5, .inr (1, [.ref (u6 0), .ref (u6 1), .int (zi 0)])), rI (u6 0) cI 10 (fun _ => 0), rI (u6 1) cI 10 (fun _ => 0), rI q7 cI 4 (fun _ => 0)] := hD
  refine lv_dup (pc := 41) hx hb dX3_init_41 rfl ?_
  refine z_iconst (pc := 42) hx hb dX3_init_42 ?_
  refine z_bipush (pc := 43) hx hb dX3_init_43 (by decide) ?_
  refine z_iast (pc := 45) hx hb hK hP hD hS 11 0 (f := (fun _ => 0)) (x := 10) rfl (by rfl) (by omega) (by omega) dX3_init_45 (fun H locs hP hD hS => ?_)
  replace hP : va_P D vwCl [(h0, .inr (3, [.ref q1, .ref q3, .ref q5, .null, .null, .int 0, .int 0])), (q1, .inr (2, [.ref (u2 0), .ref (u2 1), .ref (u2 2), .int (zi 0)])), rI (u2 0) cI 12 (fun _ => 0), rI (u2 1) cI 12 (fun _ => 0), rI (u2 2) cI 12 (fun _ => 0), (q3, .inr (0, [.ref (u4 0), .ref (u4 1), .int (zi 0)])), rI (u4 0) cI 13 (fun _ => 0), rJ (u4 1) cJ 13 (fun _ => 0), (q5, .inr (1, [.ref (u6 0), .ref (u6 1), .int (zi 0)])), rI (u6 0) cI 10 (fun _ => 0), rI (u6 1) cI 10 (fun _ => 0), rI q7 cI 4 (uZ (fun _ => 0) 0 10)] H := hP
  replace hD : va_D A [(h0, .inr (3, [.ref q1, .ref q3, .ref q5, .null, .null, .int 0, .int 0])), (q1, .inr (2, [.ref (u2 0), .ref (u2 1), .ref (u2 2), .int (zi 0)])), rI (u2 0) cI 12 (fun _ => 0), rI (u2 1) cI 12 (fun _ => 0), rI (u2 2) cI 12 (fun _ => 0), (q3, .inr (0, [.ref (u4 0), .ref (u4 1), .int (zi 0)])), rI (u4 0) cI 13 (fun _ => 0), rJ (u4 1) cJ 13 (fun _ => 0), (q5, .inr (1, [.ref (u6 0), .ref (u6 1), .int (zi 0)])), rI (u6 0) cI 10 (fun _ => 0), rI (u6 1) cI 10 (fun _ => 0), rI q7 cI 4 (uZ (fun _ => 0) 0 10)] := hD
  refine lv_dup (pc := 46) hx hb dX3_init_46 rfl ?_
  refine z_iconst (pc := 47) hx hb dX3_init_47 ?_
  refine z_bipush (pc := 48) hx hb dX3_init_48 (by decide) ?_
  refine z_iast (pc := 50) hx hb hK hP hD hS 11 1 (f := (uZ (fun _ => 0) 0 10)) (x := 20) rfl (by rfl) (by omega) (by omega) dX3_init_50 (fun H locs hP hD hS => ?_)
  replace hP : va_P D vwCl [(h0, .inr (3, [.ref q1, .ref q3, .ref q5, .null, .null, .int 0, .int 0])), (q1, .inr (2, [.ref (u2 0), .ref (u2 1), .ref (u2 2), .int (zi 0)])), rI (u2 0) cI 12 (fun _ => 0), rI (u2 1) cI 12 (fun _ => 0), rI (u2 2) cI 12 (fun _ => 0), (q3, .inr (0, [.ref (u4 0), .ref (u4 1), .int (zi 0)])), rI (u4 0) cI 13 (fun _ => 0), rJ (u4 1) cJ 13 (fun _ => 0), (q5, .inr (1, [.ref (u6 0), .ref (u6 1), .int (zi 0)])), rI (u6 0) cI 10 (fun _ => 0), rI (u6 1) cI 10 (fun _ => 0), rI q7 cI 4 (uZ (uZ (fun _ => 0) 0 10) 1 20)] H := hP
  replace hD : va_D A [(h0, .inr (3, [.ref q1, .ref q3, .ref q5, .null, .null, .int 0, .int 0])), (q1, .inr (2, [.ref (u2 0), .ref (u2 1), .ref (u2 2), .int (zi 0)])), rI (u2 0) cI 12 (fun _ => 0), rI (u2 1) cI 12 (fun _ => 0), rI (u2 2) cI 12 (fun _ => 0), (q3, .inr (0, [.ref (u4 0), .ref (u4 1), .int (zi 0)])), rI (u4 0) cI 13 (fun _ => 0), rJ (u4 1) cJ 13 (fun _ => 0), (q5, .inr (1, [.ref (u6 0), .ref (u6 1), .int (zi 0)])), rI (u6 0) cI 10 (fun _ => 0), rI (u6 1) cI 10 (fun _ => 0), rI q7 cI 4 (uZ (uZ (fun _ => 0) 0 10) 1 20)] := hD
  refine lv_dup (pc := 51) hx hb dX3_init_51 rfl ?_
  refine z_iconst (pc := 52) hx hb dX3_init_52 ?_
  refine z_bipush (pc := 53) hx hb dX3_init_53 (by decide) ?_
  refine z_iast (pc := 55) hx hb hK hP hD hS 11 2 (f := (uZ (uZ (fun _ => 0) 0 10) 1 20)) (x := 40) rfl (by rfl) (by omega) (by omega) dX3_init_55 (fun H locs hP hD hS => ?_)
  replace hP : va_P D vwCl [(h0, .inr (3, [.ref q1, .ref q3, .ref q5, .null, .null, .int 0, .int 0])), (q1, .inr (2, [.ref (u2 0), .ref (u2 1), .ref (u2 2), .int (zi 0)])), rI (u2 0) cI 12 (fun _ => 0), rI (u2 1) cI 12 (fun _ => 0), rI (u2 2) cI 12 (fun _ => 0), (q3, .inr (0, [.ref (u4 0), .ref (u4 1), .int (zi 0)])), rI (u4 0) cI 13 (fun _ => 0), rJ (u4 1) cJ 13 (fun _ => 0), (q5, .inr (1, [.ref (u6 0), .ref (u6 1), .int (zi 0)])), rI (u6 0) cI 10 (fun _ => 0), rI (u6 1) cI 10 (fun _ => 0), rI q7 cI 4 (uZ (uZ (uZ (fun _ => 0) 0 10) 1 20) 2 40)] H := hP
  replace hD : va_D A [(h0, .inr (3, [.ref q1, .ref q3, .ref q5, .null, .null, .int 0, .int 0])), (q1, .inr (2, [.ref (u2 0), .ref (u2 1), .ref (u2 2), .int (zi 0)])), rI (u2 0) cI 12 (fun _ => 0), rI (u2 1) cI 12 (fun _ => 0), rI (u2 2) cI 12 (fun _ => 0), (q3, .inr (0, [.ref (u4 0), .ref (u4 1), .int (zi 0)])), rI (u4 0) cI 13 (fun _ => 0), rJ (u4 1) cJ 13 (fun _ => 0), (q5, .inr (1, [.ref (u6 0), .ref (u6 1), .int (zi 0)])), rI (u6 0) cI 10 (fun _ => 0), rI (u6 1) cI 10 (fun _ => 0), rI q7 cI 4 (uZ (uZ (uZ (fun _ => 0) 0 10) 1 20) 2 40)] := hD
  refine lv_dup (pc := 56) hx hb dX3_init_56 rfl ?_
  refine z_iconst (pc := 57) hx hb dX3_init_57 ?_
  refine z_bipush (pc := 58) hx hb dX3_init_58 (by decide) ?_
  refine z_iast (pc := 60) hx hb hK hP hD hS 11 3 (f := (uZ (uZ (uZ (fun _ => 0) 0 10) 1 20) 2 40)) (x := 80) rfl (by rfl) (by omega) (by omega) dX3_init_60 (fun H locs hP hD hS => ?_)
  replace hP : va_P D vwCl [(h0, .inr (3, [.ref q1, .ref q3, .ref q5, .null, .null, .int 0, .int 0])), (q1, .inr (2, [.ref (u2 0), .ref (u2 1), .ref (u2 2), .int (zi 0)])), rI (u2 0) cI 12 (fun _ => 0), rI (u2 1) cI 12 (fun _ => 0), rI (u2 2) cI 12 (fun _ => 0), (q3, .inr (0, [.ref (u4 0), .ref (u4 1), .int (zi 0)])), rI (u4 0) cI 13 (fun _ => 0), rJ (u4 1) cJ 13 (fun _ => 0), (q5, .inr (1, [.ref (u6 0), .ref (u6 1), .int (zi 0)])), rI (u6 0) cI 10 (fun _ => 0), rI (u6 1) cI 10 (fun _ => 0), rI q7 cI 4 (uZ (uZ (uZ (uZ (fun _ => 0) 0 10) 1 20) 2 40) 3 80)] H := hP
  replace hD : va_D A [(h0, .inr (3, [.ref q1, .ref q3, .ref q5, .null, .null, .int 0, .int 0])), (q1, .inr (2, [.ref (u2 0), .ref (u2 1), .ref (u2 2), .int (zi 0)])), rI (u2 0) cI 12 (fun _ => 0), rI (u2 1) cI 12 (fun _ => 0), rI (u2 2) cI 12 (fun _ => 0), (q3, .inr (0, [.ref (u4 0), .ref (u4 1), .int (zi 0)])), rI (u4 0) cI 13 (fun _ => 0), rJ (u4 1) cJ 13 (fun _ => 0), (q5, .inr (1, [.ref (u6 0), .ref (u6 1), .int (zi 0)])), rI (u6 0) cI 10 (fun _ => 0), rI (u6 1) cI 10 (fun _ => 0), rI q7 cI 4 (uZ (uZ (uZ (uZ (fun _ => 0) 0 10) 1 20) 2 40) 3 80)] := hD
  refine va_putF (D := D) (cl := vwCl) (ci := 3) (v := .ref q7) (ty := .array .int) (C := RX3) (T := TX3) (N := 7) (pc := 61) hx hb hT inT3 tyX3 tyX3_ok nmX3 hown hK.1 hP hD hS 0 rfl rfl 3 (by decide) (hT _ tw_78) (fun _ h9 => h9) rfl hin rfl (by decide +kernel) rfl rfl (Nat.le_of_ble_eq_true rfl) dX3_init_61 (fun H locs hP hD hS => ?_)
  replace hP : va_P D vwCl [(h0, .inr (3, [.ref q1, .ref q3, .ref q5, .ref q7, .null, .int 0, .int 0])), (q1, .inr (2, [.ref (u2 0), .ref (u2 1), .ref (u2 2), .int (zi 0)])), rI (u2 0) cI 12 (fun _ => 0), rI (u2 1) cI 12 (fun _ => 0), rI (u2 2) cI 12 (fun _ => 0), (q3, .inr (0, [.ref (u4 0), .ref (u4 1), .int (zi 0)])), rI (u4 0) cI 13 (fun _ => 0), rJ (u4 1) cJ 13 (fun _ => 0), (q5, .inr (1, [.ref (u6 0), .ref (u6 1), .int (zi 0)])), rI (u6 0) cI 10 (fun _ => 0), rI (u6 1) cI 10 (fun _ => 0), rI q7 cI 4 (uZ (uZ (uZ (uZ (fun _ => 0) 0 10) 1 20) 2 40) 3 80)] H := hP
  replace hD : va_D A [(h0, .inr (3, [.ref q1, .ref q3, .ref q5, .ref q7, .null, .int 0, .int 0])), (q1, .inr (2, [.ref (u2 0), .ref (u2 1), .ref (u2 2), .int (zi 0)])), rI (u2 0) cI 12 (fun _ => 0), rI (u2 1) cI 12 (fun _ => 0), rI (u2 2) cI 12 (fun _ => 0), (q3, .inr (0, [.ref (u4 0), .ref (u4 1), .int (zi 0)])), rI (u4 0) cI 13 (fun _ => 0), rJ (u4 1) cJ 13 (fun _ => 0), (q5, .inr (1, [.ref (u6 0), .ref (u6 1), .int (zi 0)])), rI (u6 0) cI 10 (fun _ => 0), rI (u6 1) cI 10 (fun _ => 0), rI q7 cI 4 (uZ (uZ (uZ (uZ (fun _ => 0) 0 10) 1 20) 2 40) 3 80)] := hD
  refine lv_aload_n (pc := 64) hx hb dX3_init_64 rfl (lv_at hl 0 rfl) ?_
  refine z_iconst (pc := 65) hx hb dX3_init_65 ?_
  refine z_newI (pc := 66) hx hb hT hK hP hD hS hA 4 (by omega) (Nat.le_of_ble_eq_true rfl) (Nat.le_of_ble_eq_true rfl) (by rfl) dX3_init_66 (fun q8 H hP hD hS => ?_)
  replace hP : va_P D vwCl [(h0, .inr (3, [.ref q1, .ref q3, .ref q5, .ref q7, .null, .int 0, .int 0])), (q1, .inr (2, [.ref (u2 0), .ref (u2 1), .ref (u2 2), .int (zi 0)])), rI (u2 0) cI 12 (fun _ => 0), rI (u2 1) cI 12 (fun _ => 0), rI (u2 2) cI 12 (fun _ => 0), (q3, .inr (0, [.ref (u4 0), .ref (u4 1), .int (zi 0)])), rI (u4 0) cI 13 (fun _ => 0), rJ (u4 1) cJ 13 (fun _ => 0), (q5, .inr (1, [.ref (u6 0), .ref (u6 1), .int (zi 0)])), rI (u6 0) cI 10 (fun _ => 0), rI (u6 1) cI 10 (fun _ => 0), rI q7 cI 4 (uZ (uZ (uZ (uZ (fun _ => 0) 0 10) 1 20) 2 40) 3 80), rI q8 cI 4 (fun _ => 0)] H := hP
  replace hD : va_D A [(h0, .inr (3, [.ref q1, .ref q3, .ref q5, .ref q7, .null, .int 0, .int 0])), (q1, .inr (2, [.ref (u2 0), .ref (u2 1), .ref (u2 2), .int (zi 0)])), rI (u2 0) cI 12 (fun _ => 0), rI (u2 1) cI 12 (fun _ => 0), rI (u2 2) cI 12 (fun _ => 0), (q3, .inr (0, [.ref (u4 0), .ref (u4 1), .int (zi 0)])), rI (u4 0) cI 13 (fun _ => 0), rJ (u4 1) cJ 13 (fun _ => 0), (q5, .inr (1, [.ref (u6 0), .ref (u6 1), .int (zi 0)])), rI (u6 0) cI 10 (fun _ => 0), rI (u6 1) cI 10 (fun _ => 0), rI q7 cI 4 (uZ (uZ (uZ (uZ (fun _ => 0) 0 10) 1 20) 2 40) 3 80), rI q8 cI 4 (fun _ => 0)] := hD
  refine va_putF (D := D) (cl := vwCl) (ci := 3) (v := .ref q8) (ty := .array .int) (C := RX3) (T := TX3) (N := 7) (pc := 68) hx hb hT inT3 tyX3 tyX3_ok nmX3 hown hK.1 hP hD hS 0 rfl rfl 4 (by decide) (hT _ tw_79) (fun _ h9 => h9) rfl hin rfl (by decide +kernel) rfl rfl (Nat.le_of_ble_eq_true rfl) dX3_init_68 (fun H locs hP hD hS => ?_)
  replace hP : va_P D vwCl [(h0, .inr (3, [.ref q1, .ref q3, .ref q5, .ref q7, .ref q8, .int 0, .int 0])), (q1, .inr (2, [.ref (u2 0), .ref (u2 1), .ref (u2 2), .int (zi 0)])), rI (u2 0) cI 12 (fun _ => 0), rI (u2 1) cI 12 (fun _ => 0), rI (u2 2) cI 12 (fun _ => 0), (q3, .inr (0, [.ref (u4 0), .ref (u4 1), .int (zi 0)])), rI (u4 0) cI 13 (fun _ => 0), rJ (u4 1) cJ 13 (fun _ => 0), (q5, .inr (1, [.ref (u6 0), .ref (u6 1), .int (zi 0)])), rI (u6 0) cI 10 (fun _ => 0), rI (u6 1) cI 10 (fun _ => 0), rI q7 cI 4 (uZ (uZ (uZ (uZ (fun _ => 0) 0 10) 1 20) 2 40) 3 80), rI q8 cI 4 (fun _ => 0)] H := hP
  replace hD : va_D A [(h0, .inr (3, [.ref q1, .ref q3, .ref q5, .ref q7, .ref q8, .int 0, .int 0])), (q1, .inr (2, [.ref (u2 0), .ref (u2 1), .ref (u2 2), .int (zi 0)])), rI (u2 0) cI 12 (fun _ => 0), rI (u2 1) cI 12 (fun _ => 0), rI (u2 2) cI 12 (fun _ => 0), (q3, .inr (0, [.ref (u4 0), .ref (u4 1), .int (zi 0)])), rI (u4 0) cI 13 (fun _ => 0), rJ (u4 1) cJ 13 (fun _ => 0), (q5, .inr (1, [.ref (u6 0), .ref (u6 1), .int (zi 0)])), rI (u6 0) cI 10 (fun _ => 0), rI (u6 1) cI 10 (fun _ => 0), rI q7 cI 4 (uZ (uZ (uZ (uZ (fun _ => 0) 0 10) 1 20) 2 40) 3 80), rI q8 cI 4 (fun _ => 0)] := hD
  refine lv_aload_n (pc := 71) hx hb dX3_init_71 rfl (lv_at hl 0 rfl) ?_
  refine z_bipush (pc := 72) hx hb dX3_init_72 (by decide) ?_
  refine va_put (D := D) (cl := vwCl) (ci := 3) (v := .int (zi (10))) (ty := .int) (C := RX3) (T := TX3) (N := 7) (pc := 74) hx hb hT inT3 tyX3 tyX3_ok nmX3 hown hK.1 hP hD hS 0 rfl rfl 5 (by decide) (hT _ tw_80) (fun _ h9 => h9) rfl (by decide +kernel) rfl rfl (Nat.le_of_ble_eq_true rfl) dX3_init_74 (fun H locs hP hD hS => ?_)
  replace hP : va_P D vwCl [(h0, .inr (3, [.ref q1, .ref q3, .ref q5, .ref q7, .ref q8, .int (zi (10)), .int 0])), (q1, .inr (2, [.ref (u2 0), .ref (u2 1), .ref (u2 2), .int (zi 0)])), rI (u2 0) cI 12 (fun _ => 0), rI (u2 1) cI 12 (fun _ => 0), rI (u2 2) cI 12 (fun _ => 0), (q3, .inr (0, [.ref (u4 0), .ref (u4 1), .int (zi 0)])), rI (u4 0) cI 13 (fun _ => 0), rJ (u4 1) cJ 13 (fun _ => 0), (q5, .inr (1, [.ref (u6 0), .ref (u6 1), .int (zi 0)])), rI (u6 0) cI 10 (fun _ => 0), rI (u6 1) cI 10 (fun _ => 0), rI q7 cI 4 (uZ (uZ (uZ (uZ (fun _ => 0) 0 10) 1 20) 2 40) 3 80), rI q8 cI 4 (fun _ => 0)] H := hP
  replace hD : va_D A [(h0, .inr (3, [.ref q1, .ref q3, .ref q5, .ref q7, .ref q8, .int (zi (10)), .int 0])), (q1, .inr (2, [.ref (u2 0), .ref (u2 1), .ref (u2 2), .int (zi 0)])), rI (u2 0) cI 12 (fun _ => 0), rI (u2 1) cI 12 (fun _ => 0), rI (u2 2) cI 12 (fun _ => 0), (q3, .inr (0, [.ref (u4 0), .ref (u4 1), .int (zi 0)])), rI (u4 0) cI 13 (fun _ => 0), rJ (u4 1) cJ 13 (fun _ => 0), (q5, .inr (1, [.ref (u6 0), .ref (u6 1), .int (zi 0)])), rI (u6 0) cI 10 (fun _ => 0), rI (u6 1) cI 10 (fun _ => 0), rI q7 cI 4 (uZ (uZ (uZ (uZ (fun _ => 0) 0 10) 1 20) 2 40) 3 80), rI q8 cI 4 (fun _ => 0)] := hD
  refine lv_aload_n (pc := 77) hx hb dX3_init_77 rfl (lv_at hl 0 rfl) ?_
  refine z_iconst (pc := 78) hx hb dX3_init_78 ?_
  refine va_put (D := D) (cl := vwCl) (ci := 3) (v := .int (zi (1))) (ty := .int) (C := RX3) (T := TX3) (N := 7) (pc := 79) hx hb hT inT3 tyX3 tyX3_ok nmX3 hown hK.1 hP hD hS 0 rfl rfl 6 (by decide) (hT _ tw_81) (fun _ h9 => h9) rfl (by decide +kernel) rfl rfl (Nat.le_of_ble_eq_true rfl) dX3_init_79 (fun H locs hP hD hS => ?_)
  replace hP : va_P D vwCl [(h0, .inr (3, [.ref q1, .ref q3, .ref q5, .ref q7, .ref q8, .int (zi (10)), .int (zi (1))])), (q1, .inr (2, [.ref (u2 0), .ref (u2 1), .ref (u2 2), .int (zi 0)])), rI (u2 0) cI 12 (fun _ => 0), rI (u2 1) cI 12 (fun _ => 0), rI (u2 2) cI 12 (fun _ => 0), (q3, .inr (0, [.ref (u4 0), .ref (u4 1), .int (zi 0)])), rI (u4 0) cI 13 (fun _ => 0), rJ (u4 1) cJ 13 (fun _ => 0), (q5, .inr (1, [.ref (u6 0), .ref (u6 1), .int (zi 0)])), rI (u6 0) cI 10 (fun _ => 0), rI (u6 1) cI 10 (fun _ => 0), rI q7 cI 4 (uZ (uZ (uZ (uZ (fun _ => 0) 0 10) 1 20) 2 40) 3 80), rI q8 cI 4 (fun _ => 0)] H := hP
  replace hD : va_D A [(h0, .inr (3, [.ref q1, .ref q3, .ref q5, .ref q7, .ref q8, .int (zi (10)), .int (zi (1))])), (q1, .inr (2, [.ref (u2 0), .ref (u2 1), .ref (u2 2), .int (zi 0)])), rI (u2 0) cI 12 (fun _ => 0), rI (u2 1) cI 12 (fun _ => 0), rI (u2 2) cI 12 (fun _ => 0), (q3, .inr (0, [.ref (u4 0), .ref (u4 1), .int (zi 0)])), rI (u4 0) cI 13 (fun _ => 0), rJ (u4 1) cJ 13 (fun _ => 0), (q5, .inr (1, [.ref (u6 0), .ref (u6 1), .int (zi 0)])), rI (u6 0) cI 10 (fun _ => 0), rI (u6 1) cI 10 (fun _ => 0), rI q7 cI 4 (uZ (uZ (uZ (uZ (fun _ => 0) 0 10) 1 20) 2 40) 3 80), rI q8 cI 4 (fun _ => 0)] := hD
  have hP2 := hP.sub (ws' := bX3 cI cJ h0 (fun k => [h0, q1, q3, q5, q7, q8, (u2 0), (u2 1), (u2 2), (u4 0), (u4 1), (u6 0), (u6 1)].getD k 0)) [0, 1, 5, 8, 11, 12, 2, 3, 4, 6, 7, 9, 10] rfl
  have hD2 := hD.sub (ws' := bX3 cI cJ h0 (fun k => [h0, q1, q3, q5, q7, q8, (u2 0), (u2 1), (u2 2), (u4 0), (u4 1), (u6 0), (u6 1)].getD k 0)) [0, 1, 5, 8, 11, 12, 2, 3, 4, 6, 7, 9, 10] (by decide) rfl
  exact ct_ret (B := bX3 cI cJ h0) hx hb hrt hlk (fun k => [h0, q1, q3, q5, q7, q8, (u2 0), (u2 1), (u2 2), (u4 0), (u4 1), (u6 0), (u6 1)].getD k 0) dX3_init_82 hP2 hD2 hS

set_option maxHeartbeats 4000000 in
set_option maxRecDepth 100000 in
theorem c_X4_init (D : va_G) (cI cJ : ClassId) (l : Launch) : CTR D cI cJ l yX4_init cX4_init 1 9 1066 12 4 [.int 0, .null, .null, .null, .null, .int 0, .null, .null, .int 0, .int 0, .long 0, .long 0, .long 0, .long 0, .null, .null, .null] (bX4 cI) := by
  refine CTR.of (by decide) rfl ?_
  intro p e s m args below meth c h0 A hx hb hrt hml hown hT hlk hin hK hA hP hD hS ls hl
  refine lv_aload_n (pc := 0) hx hb dX4_init_0 rfl (lv_at hl 0 rfl) ?_
  refine W.objInit (g := F0 m 1 ls [.ref h0]) hx hb hown (hT _ tw_336) (hT _ tw_13) (hT _ tw_14) rfl (hl.1.trans hml.symm) rfl dX4_init_1 (Nat.le_of_ble_eq_true rfl) (Nat.le_of_ble_eq_true rfl) ?_
  refine W.eq (g2 := F0 m 4 ls []) rfl ?_
  refine lv_aload_n (pc := 4) hx hb dX4_init_4 rfl (lv_at hl 0 rfl) ?_
  refine z_bipush (pc := 5) hx hb dX4_init_5 (by decide) ?_
  refine z_newI (pc := 7) hx hb hT hK hP hD hS hA 12 (by omega) (Nat.le_of_ble_eq_true rfl) (Nat.le_of_ble_eq_true rfl) (by rfl) dX4_init_7 (fun q1 H hP hD hS => ?_)
  replace hP : va_P D vwCl [(h0, .inr (4, [.int 0, .null, .null, .null, .null, .int 0, .null, .null, .int 0, .int 0, .long 0, .long 0, .long 0, .long 0, .null, .null, .null])), rI q1 cI 12 (fun _ => 0)] H := hP
  replace hD : va_D A [(h0, .inr (4, [.int 0, .null, .null, .null, .null, .int 0, .null, .null, .int 0, .int 0, .long 0, .long 0, .long 0, .long 0, .null, .null, .null])), rI q1 cI 12 (fun _ => 0)] := hD
  refine va_putF (D := D) (cl := vwCl) (ci := 4) (v := .ref q1) (ty := .array .int) (C := RX4) (T := TX4) (N := 17) (pc := 9) hx hb hT inT4 tyX4 tyX4_ok nmX4 hown hK.1 hP hD hS 0 rfl rfl 1 (by decide) (hT _ tw_338) (fun _ h9 => h9) rfl hin rfl (by decide +kernel) rfl rfl (Nat.le_of_ble_eq_true rfl) dX4_init_9 (fun H locs hP hD hS => ?_)
  replace hP : va_P D vwCl [(h0, .inr (4, [.int 0, .ref q1, .null, .null, .null, .int 0, .null, .null, .int 0, .int 0, .long 0, .long 0, .long 0, .long 0, .null, .null, .null])), rI q1 cI 12 (fun _ => 0)] H := hP
  replace hD : va_D A [(h0, .inr (4, [.int 0, .ref q1, .null, .null, .null, .int 0, .null, .null, .int 0, .int 0, .long 0, .long 0, .long 0, .long 0, .null, .null, .null])), rI q1 cI 12 (fun _ => 0)] := hD
  refine lv_aload_n (pc := 12) hx hb dX4_init_12 rfl (lv_at hl 0 rfl) ?_
  refine z_bipush (pc := 13) hx hb dX4_init_13 (by decide) ?_
  refine z_newI (pc := 15) hx hb hT hK hP hD hS hA 12 (by omega) (Nat.le_of_ble_eq_true rfl) (Nat.le_of_ble_eq_true rfl) (by rfl) dX4_init_15 (fun q2 H hP hD hS => ?_)
  replace hP : va_P D vwCl [(h0, .inr (4, [.int 0, .ref q1, .null, .null, .null, .int 0, .null, .null, .int 0, .int 0, .long 0, .long 0, .long 0, .long 0, .null, .null, .null])), rI q1 cI 12 (fun _ => 0), rI q2 cI 12 (fun _ => 0)] H := hP
  replace hD : va_D A [(h0, .inr (4, [.int 0, .ref q1, .null, .null, .null, .int 0, .null, .null, .int 0, .int 0, .long 0, .long 0, .long 0, .long 0, .null, .null, .null])), rI q1 cI 12 (fun _ => 0), rI q2 cI 12 (fun _ => 0)] := hD
  refine va_putF (D := D) (cl := vwCl) (ci := 4) (v := .ref q2) (ty := .array .int) (C := RX4) (T := TX4) (N := 17) (pc := 17) hx hb hT inT4 tyX4 tyX4_ok nmX4 hown hK.1 hP hD hS 0 rfl rfl 2 (by decide) (hT _ tw_339) (fun _ h9 => h9) rfl hin rfl (by decide +kernel) rfl rfl (Nat.le_of_ble_eq_true rfl) dX4_init_17 (fun H locs hP hD hS => ?_)
  replace hP : va_P D vwCl [(h0, .inr (4, [.int 0, .ref q1, .ref q2, .null, .null, .int 0, .null, .null, .int 0, .int 0, .long 0, .long 0, .long 0, .long 0, .null, .null, .null])), rI q1 cI 12 (fun _ => 0), rI q2 cI 12 (fun _ => 0)] H := hP
  replace hD : va_D A [(h0, .inr (4, [.int 0, .ref q1, .ref q2, .null, .null, .int 0, .null, .null, .int 0, .int 0, .long 0, .long 0, .long 0, .long 0, .null, .null, .null])), rI q1 cI 12 (fun _ => 0), rI q2 cI 12 (fun _ => 0)] := hD
  refine lv_aload_n (pc := 20) hx hb dX4_init_20 rfl (lv_at hl 0 rfl) ?_
  refine z_bipush (pc := 21) hx hb dX4_init_21 (by decide) ?_
  refine z_newI (pc := 23) hx hb hT hK hP hD hS hA 12 (by omega) (Nat.le_of_ble_eq_true rfl) (Nat.le_of_ble_eq_true rfl) (by rfl) dX4_init_23 (fun q3 H hP hD hS => ?_)
  replace hP : va_P D vwCl [(h0, .inr (4, [.int 0, .ref q1, .ref q2, .null, .null, .int 0, .null, .null, .int 0, .int 0, .long 0, .long 0, .long 0, .long 0, .null, .null, .null])), rI q1 cI 12 (fun _ => 0), rI q2 cI 12 (fun _ => 0), rI q3 cI 12 (fun _ => 0)] H := hP
  replace hD : va_D A [(h0, .inr (4, [.int 0, .ref q1, .ref q2, .null, .null, .int 0, .null, .null, .int 0, .int 0, .long 0, .long 0, .long 0, .long 0, .null, .null, .null])), rI q1 cI 12 (fun _ => 0), rI q2 cI 12 (fun _ => 0), rI q3 cI 12 (fun _ => 0)] := hD
  refine va_putF (D := D) (cl := vwCl) (ci := 4) (v := .ref q3) (ty := .array .int) (C := RX4) (T := TX4) (N := 17) (pc := 25) hx hb hT inT4 tyX4 tyX4_ok nmX4 hown hK.1 hP hD hS 0 rfl rfl 3 (by decide) (hT _ tw_340) (fun _ h9 => h9) rfl hin rfl (by decide +kernel) rfl rfl (Nat.le_of_ble_eq_true rfl) dX4_init_25 (fun H locs hP hD hS => ?_)
  replace hP : va_P D vwCl [(h0, .inr (4, [.int 0, .ref q1, .ref q2, .ref q3, .null, .int 0, .null, .null, .int 0, .int 0, .long 0, .long 0, .long 0, .long 0, .null, .null, .null])), rI q1 cI 12 (fun _ => 0), rI q2 cI 12 (fun _ => 0), rI q3 cI 12 (fun _ => 0)] H := hP
  replace hD : va_D A [(h0, .inr (4, [.int 0, .ref q1, .ref q2, .ref q3, .null, .int 0, .null, .null, .int 0, .int 0, .long 0, .long 0, .long 0, .long 0, .null, .null, .null])), rI q1 cI 12 (fun _ => 0), rI q2 cI 12 (fun _ => 0), rI q3 cI 12 (fun _ => 0)] := hD
  refine lv_aload_n (pc := 28) hx hb dX4_init_28 rfl (lv_at hl 0 rfl) ?_
  refine z_iconst (pc := 29) hx hb dX4_init_29 ?_
  refine z_newI (pc := 30) hx hb hT hK hP hD hS hA 4 (by omega) (Nat.le_of_ble_eq_true rfl) (Nat.le_of_ble_eq_true rfl) (by rfl) dX4_init_30 (fun q4 H hP hD hS => ?_)
  replace hP : va_P D vwCl [(h0, .inr (4, [.int 0, .ref q1, .ref q2, .ref q3, .null, .int 0, .null, .null, .int 0, .int 0, .long 0, .long 0, .long 0, .long 0, .null, .null, .null])), rI q1 cI 12 (fun _ => 0), rI q2 cI 12 (fun _ => 0), rI q3 cI 12 (fun _ => 0), rI q4 cI 4 (fun _ => 0)] H := hP
  replace hD : va_D A [(h0, .inr (4, [.int 0, .ref q1, .ref q2, .ref q3, .null, .int 0, .null, .null, .int 0, .int 0, .long 0, .long 0, .long 0, .long 0, .null, .null, .null])), rI q1 cI 12 (fun _ => 0), rI q2 cI 12 (fun _ => 0), rI q3 cI 12 (fun _ => 0), rI q4 cI 4 (fun _ => 0)] := hD
  refine va_putF (D := D) (cl := vwCl) (ci := 4) (v := .ref q4) (ty := .array .int) (C := RX4) (T := TX4) (N := 17) (pc := 32) hx hb hT inT4 tyX4 tyX4_ok nmX4 hown hK.1 hP hD hS 0 rfl rfl 4 (by decide) (hT _ tw_341) (fun _ h9 => h9) rfl hin rfl (by decide +kernel) rfl rfl (Nat.le_of_ble_eq_true rfl) dX4_init_32 (fun H locs hP hD hS => ?_)
  replace hP : va_P D vwCl [(h0, .inr (4, [.int 0, .ref q1, .ref q2, .ref q3, .ref q4, .int 0, .null, .null, .int 0, .int 0, .long 0, .long 0, .long 0, .long 0, .null, .null, .null])), rI q1 cI 12 (fun _ => 0), rI q2 cI 12 (fun _ => 0), rI q3 cI 12 (fun _ => 0), rI q4 cI 4 (fun _ => 0)] H := hP
  replace hD : va_D A [(h0, .inr (4, [.int 0, .ref q1, .ref q2, .ref q3, .ref q4, .int 0, .null, .null, .int 0, .int 0, .long 0, .long 0, .long 0, .long 0, .null, .null, .null])), rI q1 cI 12 (fun _ => 0), rI q2 cI 12 (fun _ => 0), rI q3 cI 12 (fun _ => 0), rI q4 cI 4 (fun _ => 0)] := hD
  refine lv_aload_n (pc := 35) hx hb dX4_init_35 rfl (lv_at hl 0 rfl) ?_
  refine z_bipush (pc := 36) hx hb dX4_init_36 (by decide) ?_
  refine z_newI (pc := 38) hx hb hT hK hP hD hS hA 10 (by omega) (Nat.le_of_ble_eq_true rfl) (Nat.le_of_ble_eq_true rfl) (by rfl) dX4_init_38 (fun q5 H hP hD hS => ?_)
  replace hP : va_P D vwCl [(h0, .inr (4, [.int 0, .ref q1, .ref q2, .ref q3, .ref q4, .int 0, .null, .null, .int 0, .int 0, .long 0, .long 0, .long 0, .long 0, .null, .null, .null])), rI q1 cI 12 (fun _ => 0), rI q2 cI 12 (fun _ => 0), rI q3 cI 12 (fun _ => 0), rI q4 cI 4 (fun _ => 0), rI q5 cI 10 (fun _ => 0)] H := hP
  replace hD : va_D A [(h0, .inr (4, [.int 0, .ref q1, .ref q2, .ref q3, .ref q4, .int 0, .null, .null, .int 0, .int 0, .long 0, .long 0, .long 0, .long 0, .null, .null, .null])), rI q1 cI 12 (fun _ => 0), rI q2 cI 12 (fun _ => 0), rI q3 cI 12 (fun _ => 0), rI q4 cI 4 (fun _ => 0), rI q5 cI 10 (fun _ => 0)] := hD
  refine va_putF (D := D) (cl := vwCl) (ci := 4) (v := .ref q5) (ty := .array .int) (C := RX4) (T := TX4) (N := 17) (pc := 40) hx hb hT inT4 tyX4 tyX4_ok nmX4 hown hK.1 hP hD hS 0 rfl rfl 6 (by decide) (hT _ tw_343) (fun _ h9 => h9) rfl hin rfl (by decide +kernel) rfl rfl (Nat.le_of_ble_eq_true rfl) dX4_init_40 (fun H locs hP hD hS => ?_)
  replace hP : va_P D vwCl [(h0, .inr (4, [.int 0, .ref q1, .ref q2, .ref q3, .ref q4, .int 0, .ref q5, .null, .int 0, .int 0, .long 0, .long 0, .long 0, .long 0, .null, .null, .null])), rI q1 cI 12 (fun _ => 0), rI q2 cI 12 (fun _ => 0), rI q3 cI 12 (fun _ => 0), rI q4 cI 4 (fun _ => 0), rI q5 cI 10 (fun _ => 0)] H := hP
  replace hD : va_D A [(h0, .inr (4, [.int 0, .ref q1, .ref q2, .ref q3, .ref q4, .int 0, .ref q5, .null, .int 0, .int 0, .long 0, .long 0, .long 0, .long 0, .null, .null, .null])), rI q1 cI 12 (fun _ => 0), rI q2 cI 12 (fun _ => 0), rI q3 cI 12 (fun _ => 0), rI q4 cI 4 (fun _ => 0), rI q5 cI 10 (fun _ => 0)] := hD
  refine lv_aload_n (pc := 43) hx hb dX4_init_43 rfl (lv_at hl 0 rfl) ?_
  refine z_bipush (pc := 44) hx hb dX4_init_44 (by decide) ?_
  refine z_newI (pc := 46) hx hb hT hK hP hD hS hA 10 (by omega) (Nat.le_of_ble_eq_true rfl) (Nat.le_of_ble_eq_true rfl) (by rfl) dX4_init_46 (fun q6 H hP hD hS => ?_)
  replace hP : va_P D vwCl [(h0, .inr (4, [.int 0, .ref q1, .ref q2, .ref q3, .ref q4, .int 0, .ref q5, .null, .int 0, .int 0, .long 0, .long 0, .long 0, .long 0, .null, .null, .null])), rI q1 cI 12 (fun _ => 0), rI q2 cI 12 (fun _ => 0), rI q3 cI 12 (fun _ => 0), rI q4 cI 4 (fun _ => 0), rI q5 cI 10 (fun _ => 0), rI q6 cI 10 (fun _ => 0)] H := hP
  replace hD : va_D A [(h0, .inr (4, [.int 0, .ref q1, .ref q2, .ref q3, .ref q4, .int 0, .ref q5, .null, .int 0, .int 0, .long 0, .long 0, .long 0, .long 0, .null, .null, .null])), rI q1 cI 12 (fun _ => 0), rI q2 cI 12 (fun _ => 0), rI q3 cI 12 (fun _ => 0), rI q4 cI 4 (fun _ => 0), rI q5 cI 10 (fun _ => 0), rI q6 cI 10 (fun _ => 0)] := hD
  refine va_putF (D := D) (cl := vwCl) (ci := 4) (v := .ref q6) (ty := .array .int) (C := RX4) (T := TX4) (N := 17) (pc := 48) hx hb hT inT4 tyX4 tyX4_ok nmX4 hown hK.1 hP hD hS 0 rfl rfl 7 (by decide) (hT _ tw_344) (fun _ h9 => h9) rfl hin rfl (by decide +kernel) rfl rfl (Nat.le_of_ble_eq_true rfl) dX4_init_48 (fun H locs hP hD hS => ?_)
  replace hP : va_P D vwCl [(h0, .inr (4, [.int 0, .ref q1, .ref q2, .ref q3, .ref q4, .int 0, .ref q5, .ref q6, .int 0, .int 0, .long 0, .long 0, .long 0, .long 0, .null, .null, .null])), rI q1 cI 12 (fun _ => 0), rI q2 cI 12 (fun _ => 0), rI q3 cI 12 (fun _ => 0), rI q4 cI 4 (fun _ => 0), rI q5 cI 10 (fun _ => 0), rI q6 cI 10 (fun _ => 0)] H := hP
  replace hD : va_D A [(h0, .inr (4, [.int 0, .ref q1, .ref q2, .ref q3, .ref q4, .int 0, .ref q5, .ref q6, .int 0, .int 0, .long 0, .long 0, .long 0, .long 0, .null, .null, .null])), rI q1 cI 12 (fun _ => 0), rI q2 cI 12 (fun _ => 0), rI q3 cI 12 (fun _ => 0), rI q4 cI 4 (fun _ => 0), rI q5 cI 10 (fun _ => 0), rI q6 cI 10 (fun _ => 0)] := hD
  refine lv_aload_n (pc := 51) hx hb dX4_init_51 rfl (lv_at hl 0 rfl) ?_
  refine z_bipush (pc := 52) hx hb dX4_init_52 (by decide) ?_
  refine va_put (D := D) (cl := vwCl) (ci := 4) (v := .int (zi (10))) (ty := .int) (C := RX4) (T := TX4) (N := 17) (pc := 54) hx hb hT inT4 tyX4 tyX4_ok nmX4 hown hK.1 hP hD hS 0 rfl rfl 8 (by decide) (hT _ tw_345) (fun _ h9 => h9) rfl (by decide +kernel) rfl rfl (Nat.le_of_ble_eq_true rfl) dX4_init_54 (fun H locs hP hD hS => ?_)
  replace hP : va_P D vwCl [(h0, .inr (4, [.int 0, .ref q1, .ref q2, .ref q3, .ref q4, .int 0, .ref q5, .ref q6, .int (zi (10)), .int 0, .long 0, .long 0, .long 0, .long 0, .null, .null, .null])), rI q1 cI 12 (fun _ => 0), rI q2 cI 12 (fun _ => 0), rI q3 cI 12 (fun _ => 0), rI q4 cI 4 (fun _ => 0), rI q5 cI 10 (fun _ => 0), rI q6 cI 10 (fun _ => 0)] H := hP
  replace hD : va_D A [(h0, .inr (4, [.int 0, .ref q1, .ref q2, .ref q3, .ref q4, .int 0, .ref q5, .ref q6, .int (zi (10)), .int 0, .long 0, .long 0, .long 0, .long 0, .null, .null, .null])), rI q1 cI 12 (fun _ => 0), rI q2 cI 12 (fun _ => 0), rI q3 cI 12 (fun _ => 0), rI q4 cI 4 (fun _ => 0), rI q5 cI 10 (fun _ => 0), rI q6 cI 10 (fun _ => 0)] := hD
  refine lv_aload_n (pc := 57) hx hb dX4_init_57 rfl (lv_at hl 0 rfl) ?_
  refine z_iconst (pc := 58) hx hb dX4_init_58 ?_
  refine va_put (D := D) (cl := vwCl) (ci := 4) (v := .int (zi (1))) (ty := .int) (C := RX4) (T := TX4) (N := 17) (pc := 59) hx hb hT inT4 tyX4 tyX4_ok nmX4 hown hK.1 hP hD hS 0 rfl rfl 9 (by decide) (hT _ tw_346) (fun _ h9 => h9) rfl (by decide +kernel) rfl rfl (Nat.le_of_ble_eq_true rfl) dX4_init_59 (fun H locs hP hD hS => ?_)
  replace hP : va_P D vwCl [(h0, .inr (4, [.int 0, .ref q1, .ref q2, .ref q3, .ref q4, .int 0, .ref q5, .ref q6, .int (zi (10)), .int (zi (1)), .long 0, .long 0, .long 0, .long 0, .null, .null, .null])), rI q1 cI 12 (fun _ => 0), rI q2 cI 12 (fun _ => 0), rI q3 cI 12 (fun _ => 0), rI q4 cI 4 (fun _ => 0), rI q5 cI 10 (fun _ => 0), rI q6 cI 10 (fun _ => 0)] H := hP
  replace hD : va_D A [(h0, .inr (4, [.int 0, .ref q1, .ref q2, .ref q3, .ref q4, .int 0, .ref q5, .ref q6, .int (zi (10)), .int (zi (1)), .long 0, .long 0, .long 0, .long 0, .null, .null, .null])), rI q1 cI 12 (fun _ => 0), rI q2 cI 12 (fun _ => 0), rI q3 cI 12 (fun _ => 0), rI q4 cI 4 (fun _ => 0), rI q5 cI 10 (fun _ => 0), rI q6 cI 10 (fun _ => 0)] := hD
  refine lv_aload_n (pc := 62) hx hb dX4_init_62 rfl (lv_at hl 0 rfl) ?_
  refine z_sipush (pc := 63) hx hb dX4_init_63 (by decide) ?_
  refine z_newI (pc := 66) hx hb hT hK hP hD hS hA 501 (by omega) (Nat.le_of_ble_eq_true rfl) (Nat.le_of_ble_eq_true rfl) (by rfl) dX4_init_66 (fun q7 H hP hD hS => ?_)
  replace hP : va_P D vwCl [(h0, .inr (4, [.int 0, .ref q1, .ref q2, .ref q3, .ref q4, .int 0, .ref q5, .ref q6, .int (zi (10)), .int (zi (1)), .long 0, .long 0, .long 0, .long 0, .null, .null, .null])), rI q1 cI 12 (fun _ => 0), rI q2 cI 12 (fun _ => 0), rI q3 cI 12 (fun _ => 0), rI q4 cI 4 (fun _ => 0), rI q5 cI 10 (fun _ => 0), rI q6 cI 10 (fun _ => 0), rI q7 cI 501 (fun _ => 0)] H := hP
  replace hD : va_D A [(h0, .inr (4, [.int 0, .ref q1, .ref q2, .ref q3, .ref q4, .int 0, .ref q5, .ref q6, .int (zi (10)), .int (zi (1)), .long 0, .long 0, .long 0, .long 0, .null, .null, .null])), rI q1 cI 12 (fun _ => 0), rI q2 cI 12 (fun _ => 0), rI q3 cI 12 (fun _ => 0), rI q4 cI 4 (fun _ => 0), rI q5 cI 10 (fun _ => 0), rI q6 cI 10 (fun _ => 0), rI q7 cI 501 (fun _ => 0)] := hD
  refine va_putF (D := D) (cl := vwCl) (ci := 4) (v := .ref q7) (ty := .array .int) (C := RX4) (T := TX4) (N := 17) (pc := 68) hx hb hT inT4 tyX4 tyX4_ok nmX4 hown hK.1 hP hD hS 0 rfl rfl 14 (by decide) (hT _ tw_351) (fun _ h9 => h9) rfl hin rfl (by decide +kernel) rfl rfl (Nat.le_of_ble_eq_true rfl) dX4_init_68 (fun H locs hP hD hS => ?_)
  replace hP : va_P D vwCl [(h0, .inr (4, [.int 0, .ref q1, .ref q2, .ref q3, .ref q4, .int 0, .ref q5, .ref q6, .int (zi (10)), .int (zi (1)), .long 0, .long 0, .long 0, .long 0, .ref q7, .null, .null])), rI q1 cI 12 (fun _ => 0), rI q2 cI 12 (fun _ => 0), rI q3 cI 12 (fun _ => 0), rI q4 cI 4 (fun _ => 0), rI q5 cI 10 (fun _ => 0), rI q6 cI 10 (fun _ => 0), rI q7 cI 501 (fun _ => 0)] H := hP
  replace hD : va_D A [(h0, .inr (4, [.int 0, .ref q1, .ref q2, .ref q3, .ref q4, .int 0, .ref q5, .ref q6, .int (zi (10)), .int (zi (1)), .long 0, .long 0, .long 0, .long 0, .ref q7, .null, .null])), rI q1 cI 12 (fun _ => 0), rI q2 cI 12 (fun _ => 0), rI q3 cI 12 (fun _ => 0), rI q4 cI 4 (fun _ => 0), rI q5 cI 10 (fun _ => 0), rI q6 cI 10 (fun _ => 0), rI q7 cI 501 (fun _ => 0)] := hD
  refine lv_aload_n (pc := 71) hx hb dX4_init_71 rfl (lv_at hl 0 rfl) ?_
  refine z_sipush (pc := 72) hx hb dX4_init_72 (by decide) ?_
  refine z_newI (pc := 75) hx hb hT hK hP hD hS hA 501 (by omega) (Nat.le_of_ble_eq_true rfl) (Nat.le_of_ble_eq_true rfl) (by rfl) dX4_init_75 (fun q8 H hP hD hS => ?_)
  replace hP : va_P D vwCl [(h0, .inr (4, [.int 0, .ref q1, .ref q2, .ref q3, .ref q4, .int 0, .ref q5, .ref q6, .int (zi (10)), .int (zi (1)), .long 0, .long 0, .long 0, .long 0, .ref q7, .null, .null])), rI q1 cI 12 (fun _ => 0), rI q2 cI 12 (fun _ => 0), rI q3 cI 12 (fun _ => 0), rI q4 cI 4 (fun _ => 0), rI q5 cI 10 (fun _ => 0), rI q6 cI 10 (fun _ => 0), rI q7 cI 501 (fun _ => 0), rI q8 cI 501 (fun _ => 0)] H := hP
  replace hD : va_D A [(h0, .inr (4, [.int 0, .ref q1, .ref q2, .ref q3, .ref q4, .int 0, .ref q5, .ref q6, .int (zi (10)), .int (zi (1)), .long 0, .long 0, .long 0, .long 0, .ref q7, .null, .null])), rI q1 cI 12 (fun _ => 0), rI q2 cI 12 (fun _ => 0), rI q3 cI 12 (fun _ => 0), rI q4 cI 4 (fun _ => 0), rI q5 cI 10 (fun _ => 0), rI q6 cI 10 (fun _ => 0), rI q7 cI 501 (fun _ => 0), rI q8 cI 501 (fun _ => 0)] := hD
  refine va_putF (D := D) (cl := vwCl) (ci := 4) (v := .ref q8) (ty := .array .int) (C := RX4) (T := TX4) (N := 17) (pc := 77) hx hb hT inT4 tyX4 tyX4_ok nmX4 hown hK.1 hP hD hS 0 rfl rfl 15 (by decide) (hT _ tw_352) (fun _ h9 => h9) rfl hin rfl (by decide +kernel) rfl rfl (Nat.le_of_ble_eq_true rfl) dX4_init_77 (fun H locs hP hD hS => ?_)
  replace hP : va_P D vwCl [(h0, .inr (4, [.int 0, .ref q1, .ref q2, .ref q3, .ref q4, .int 0, .ref q5, .ref q6, .int (zi (10)), .int (zi (1)), .long 0, .long 0, .long 0, .long 0, .ref q7, .ref q8, .null])), rI q1 cI 12 (fun _ => 0), rI q2 cI 12 (fun _ => 0), rI q3 cI 12 (fun _ => 0), rI q4 cI 4 (fun _ => 0), rI q5 cI 10 (fun _ => 0), rI q6 cI 10 (fun _ => 0), rI q7 cI 501 (fun _ => 0), rI q8 cI 501 (fun _ => 0)] H := hP
  replace hD : va_D A [(h0, .inr (4, [.int 0, .ref q1, .ref q2, .ref q3, .ref q4, .int 0, .ref q5, .ref q6, .int (zi (10)), .int (zi (1)), .long 0, .long 0, .long 0, .long 0, .ref q7, .ref q8, .null])), rI q1 cI 12 (fun _ => 0), rI q2 cI 12 (fun _ => 0), rI q3 cI 12 (fun _ => 0), rI q4 cI 4 (fun _ => 0), rI q5 cI 10 (fun _ => 0), rI q6 cI 10 (fun _ => 0), rI q7 cI 501 (fun _ => 0), rI q8 cI 501 (fun _ => 0)] := hD
  refine lv_aload_n (pc := 80) hx hb dX4_init_80 rfl (lv_at hl 0 rfl) ?_
  refine z_iconst (pc := 81) hx hb dX4_init_81 ?_
  refine z_newI (pc := 82) hx hb hT hK hP hD hS hA 4 (by omega) (Nat.le_of_ble_eq_true rfl) (Nat.le_of_ble_eq_true rfl) (by rfl) dX4_init_82 (fun q9 H hP hD hS => ?_)
  replace hP : va_P D vwCl [(h0, .inr (4, [.int 0, .ref q1, .ref q2, .ref q3, .ref q4, .int 0, .ref q5, .ref q6, .int (zi (10)), .int (zi (1)), .long 0, .long 0, .long 0, .long 0, .ref q7, .ref q8, .null])), rI q1 cI 12 (fun _ => 0), rI q2 cI 12 (fun _ => 0), rI q3 cI 12 (fun _ => 0), rI q4 cI 4 (fun _ => 0), rI q5 cI 10 (fun _ => 0), rI q6 cI 10 (fun _ => 0), rI q7 cI 501 (fun _ => 0), rI q8 cI 501 (fun _ => 0), rI q9 cI 4 (fun _ => 0)] H := hP
  replace hD : va_D A [(h0, .inr (4, [.int 0, .ref q1, .ref q2, .ref q3, .ref q4, .int 0, .ref q5, .ref q6, .int (zi (10)), .int (zi (1)), .long 0, .long 0, .long 0, .long 0, .ref q7, .ref q8, .null])), rI q1 cI 12 (fun _ => 0), rI q2 cI 12 (fun _ => 0), rI q3 cI 12 (fun _ => 0), rI q4 cI 4 (fun _ => 0), rI q5 cI 10 (fun _ => 0), rI q6 cI 10 (fun _ => 0), rI q7 cI 501 (fun _ => 0), rI q8 cI 501 (fun _ => 0), rI q9 cI 4 (fun _ => 0)] := hD
  refine va_putF (D := D) (cl := vwCl) (ci := 4) (v := .ref q9) (ty := .array .int) (C := RX4) (T := TX4) (N := 17) (pc := 84) hx hb hT inT4 tyX4 tyX4_ok nmX4 hown hK.1 hP hD hS 0 rfl rfl 16 (by decide) (hT _ tw_353) (fun _ h9 => h9) rfl hin rfl (by decide +kernel) rfl rfl (Nat.le_of_ble_eq_true rfl) dX4_init_84 (fun H locs hP hD hS => ?_)
  replace hP : va_P D vwCl [(h0, .inr (4, [.int 0, .ref q1, .ref q2, .ref q3, .ref q4, .int 0, .ref q5, .ref q6, .int (zi (10)), .int (zi (1)), .long 0, .long 0, .long 0, .long 0, .ref q7, .ref q8, .ref q9])), rI q1 cI 12 (fun _ => 0), rI q2 cI 12 (fun _ => 0), rI q3 cI 12 (fun _ => 0), rI q4 cI 4 (fun _ => 0), rI q5 cI 10 (fun _ => 0), rI q6 cI 10 (fun _ => 0), rI q7 cI 501 (fun _ => 0), rI q8 cI 501 (fun _ => 0), rI q9 cI 4 (fun _ => 0)] H := hP
  replace hD : va_D A [(h0, .inr (4, [.int 0, .ref q1, .ref q2, .ref q3, .ref q4, .int 0, .ref q5, .ref q6, .int (zi (10)), .int (zi (1)), .long 0, .long 0, .long 0, .long 0, .ref q7, .ref q8, .ref q9])), rI q1 cI 12 (fun _ => 0), rI q2 cI 12 (fun _ => 0), rI q3 cI 12 (fun _ => 0), rI q4 cI 4 (fun _ => 0), rI q5 cI 10 (fun _ => 0), rI q6 cI 10 (fun _ => 0), rI q7 cI 501 (fun _ => 0), rI q8 cI 501 (fun _ => 0), rI q9 cI 4 (fun _ => 0)] := hD
  refine lv_aload_n (pc := 87) hx hb dX4_init_87 rfl (lv_at hl 0 rfl) ?_
  refine va_get (D := D) (cl := vwCl) (ci := 4) (v := .ref q4) (C := RX4) (T := TX4) (N := 17) (pc := 88) hx hb hT inT4 hown hK.1 hP 0 rfl rfl 4 (by decide) (hT _ tw_341) (fun _ h9 => h9) rfl dX4_init_88 ?_
  refine z_iconst (pc := 91) hx hb dX4_init_91 ?_
  refine z_bipush (pc := 92) hx hb dX4_init_92 (by decide) ?_
  refine z_iast (pc := 94) hx hb hK hP hD hS 4 0 (f := (fun _ => 0)) (x := 10) rfl (by rfl) (by omega) (by omega) dX4_init_94 (fun H locs hP hD hS => ?_)
  replace hP : va_P D vwCl [(h0, .inr (4, [.int 0, .ref q1, .ref q2, .ref q3, .ref q4, .int 0, .ref q5, .ref q6, .int (zi (10)), .int (zi (1)), .long 0, .long 0, .long 0, .long 0, .ref q7, .ref q8, .ref q9])), rI q1 cI 12 (fun _ => 0), rI q2 cI 12 (fun _ => 0), rI q3 cI 12 (fun _ => 0), rI q4 cI 4 (uZ (fun _ => 0) 0 10), rI q5 cI 10 (fun _ => 0), rI q6 cI 10 (fun _ => 0), rI q7 cI 501 (fun _ => 0), rI q8 cI 501 (fun _ => 0), rI q9 cI 4 (fun _ => 0)] H := hP
  replace hD : va_D A [(h0, .inr (4, [.int 0, .ref q1, .ref q2, .ref q3, .ref q4, .int 0, .ref q5, .ref q6, .int (zi (10)), .int (zi (1)), .long 0, .long 0, .long 0, .long 0, .ref q7, .ref q8, .ref q9])), rI q1 cI 12 (fun _ => 0), rI q2 cI 12 (fun _ => 0), rI q3 cI 12 (fun _ => 0), rI q4 cI 4 (uZ (fun _ => 0) 0 10), rI q5 cI 10 (fun _ => 0), rI q6 cI 10 (fun _ => 0), rI q7 cI 501 (fun _ => 0), rI q8 cI 501 (fun _ => 0), rI q9 cI 4 (fun _ => 0)] := hD
  refine lv_aload_n (pc := 95) hx hb dX4_init_95 rfl (lv_at hl 0 rfl) ?_
  refine va_get (D := D) (cl := vwCl) (ci := 4) (v := .ref q4) (C := RX4) (T := TX4) (N := 17) (pc := 96) hx hb hT inT4 hown hK.1 hP 0 rfl rfl 4 (by decide) (hT _ tw_341) (fun _ h9 => h9) rfl dX4_init_96 ?_
  refine z_iconst (pc := 99) hx hb dX4_init_99 ?_
  refine z_bipush (pc := 100) hx hb dX4_init_100 (by decide) ?_
  refine z_iast (pc := 102) hx hb hK hP hD hS 4 1 (f := (uZ (fun _ => 0) 0 10)) (x := 20) rfl (by rfl) (by omega) (by omega) dX4_init_102 (fun H locs hP hD hS => ?_)
  replace hP : va_P D vwCl [(h0, .inr (4, [.int 0, .ref q1, .ref q2, .ref q3, .ref q4, .int 0, .ref q5, .ref q6, .int (zi (10)), .int (zi (1)), .long 0, .long 0, .long 0, .long 0, .ref q7, .ref q8, .ref q9])), rI q1 cI 12 (fun _ => 0), rI q2 cI 12 (fun _ => 0), rI q3 cI 12 (fun _ => 0), rI q4 cI 4 (uZ (uZ (fun _ => 0) 0 10) 1 20), rI q5 cI 10 (fun _ => 0), rI q6 cI 10 (fun _ => 0), rI q7 cI 501 (fun _ => 0), rI q8 cI 501 (fun _ => 0), rI q9 cI 4 (fun _ => 0)] H := hP
  replace hD : va_D A [(h0, .inr (4, [.int 0, .ref q1, .ref q2, .ref q3, .ref q4, .int 0, .ref q5, .ref q6, .int (zi (10)), .int (zi (1)), .long 0, .long 0, .long 0, .long 0, .ref q7, .ref q8, .ref q9])), rI q1 cI 12 (fun _ => 0), rI q2 cI 12 (fun _ => 0), rI q3 cI 12 (fun _ => 0), rI q4 cI 4 (uZ (uZ (fun _ => 0) 0 10) 1 20), rI q5 cI 10 (fun _ => 0), rI q6 cI 10 (fun _ => 0), rI q7 cI 501 (fun _ => 0), rI q8 cI 501 (fun _ => 0), rI q9 cI 4 (fun _ => 0)] := hD
  refine lv_aload_n (pc := 103) hx hb dX4_init_103 rfl (lv_at hl 0 rfl) ?_
  refine va_get (D := D) (cl := vwCl) (ci := 4) (v := .ref q4) (C := RX4) (T := TX4) (N := 17) (pc := 104) hx hb hT inT4 hown hK.1 hP 0 rfl rfl 4 (by decide) (hT _ tw_341) (fun _ h9 => h9) rfl dX4_init_104 ?_
  refine z_iconst (pc := 107) hx hb dX4_init_107 ?_
  refine z_bipush (pc := 108) hx hb dX4_init_108 (by decide) ?_
  refine z_iast (pc := 110) hx hb hK hP hD hS 4 2 (f := (uZ (uZ (fun _ => 0) 0 10) 1 20)) (x := 40) rfl (by rfl) (by omega) (by omega) dX4_init_110 (fun H locs hP hD hS => ?_)
  replace hP : va_P D vwCl [(h0, .inr (4, [.int 0, .ref q1, .ref q2, .ref q3, .ref q4, .int 0, .ref q5, .ref q6, .int (zi (10)), .int (zi (1)), .long 0, .long 0, .long 0, .long 0, .ref q7, .ref q8, .ref q9])), rI q1 cI 12 (fun _ => 0), rI q2 cI 12 (fun _ => 0), rI q3 cI 12 (fun _ => 0), rI q4 cI 4 (uZ (uZ (uZ (fun _ => 0) 0 10) 1 20) 2 40), rI q5 cI 10 (fun _ => 0), rI q6 cI 10 (fun _ => 0), rI q7 cI 501 (fun _ => 0), rI q8 cI 501 (fun _ => 0), rI q9 cI 4 (fun _ => 0)] H := hP
  replace hD : va_D A [(h0, .inr (4, [.int 0, .ref q1, .ref q2, .ref q3, .ref q4, .int 0, .ref q5, .ref q6, .int (zi (10)), .int (zi (1)), .long 0, .long 0, .long 0, .long 0, .ref q7, .ref q8, .ref q9])), rI q1 cI 12 (fun _ => 0), rI q2 cI 12 (fun _ => 0), rI q3 cI 12 (fun _ => 0), rI q4 cI 4 (uZ (uZ (uZ (fun _ => 0) 0 10) 1 20) 2 40), rI q5 cI 10 (fun _ => 0), rI q6 cI 10 (fun _ => 0), rI q7 cI 501 (fun _ => 0), rI q8 cI 501 (fun _ => 0), rI q9 cI 4 (fun _ => 0)] := hD
  refine lv_aload_n (pc := 111) hx hb dX4_init_111 rfl (lv_at hl 0 rfl) ?_
  refine va_get (D := D) (cl := vwCl) (ci := 4) (v := .ref q4) (C := RX4) (T := TX4) (N := 17) (pc := 112) hx hb hT inT4 hown hK.1 hP 0 rfl rfl 4 (by decide) (hT _ tw_341) (fun _ h9 => h9) rfl dX4_init_112 ?_
  refine z_iconst (pc := 115) hx hb dX4_init_115 ?_
  refine z_bipush (pc := 116) hx hb dX4_init_116 (by decide) ?_
  refine z_iast (pc := 118) hx hb hK hP hD hS 4 3 (f := (uZ (uZ (uZ (fun _ => 0) 0 10) 1 20) 2 40)) (x := 80) rfl (by rfl) (by omega) (by omega) dX4_init_118 (fun H locs hP hD hS => ?_)
  replace hP : va_P D vwCl [(h0, .inr (4, [.int 0, .ref q1, .ref q2, .ref q3, .ref q4, .int 0, .ref q5, .ref q6, .int (zi (10)), .int (zi (1)), .long 0, .long 0, .long 0, .long 0, .ref q7, .ref q8, .ref q9])), rI q1 cI 12 (fun _ => 0), rI q2 cI 12 (fun _ => 0), rI q3 cI 12 (fun _ => 0), rI q4 cI 4 (uZ (uZ (uZ (uZ (fun _ => 0) 0 10) 1 20) 2 40) 3 80), rI q5 cI 10 (fun _ => 0), rI q6 cI 10 (fun _ => 0), rI q7 cI 501 (fun _ => 0), rI q8 cI 501 (fun _ => 0), rI q9 cI 4 (fun _ => 0)] H := hP
  replace hD : va_D A [(h0, .inr (4, [.int 0, .ref q1, .ref q2, .ref q3, .ref q4, .int 0, .ref q5, .ref q6, .int (zi (10)), .int (zi (1)), .long 0, .long 0, .long 0, .long 0, .ref q7, .ref q8, .ref q9])), rI q1 cI 12 (fun _ => 0), rI q2 cI 12 (fun _ => 0), rI q3 cI 12 (fun _ => 0), rI q4 cI 4 (uZ (uZ (uZ (uZ (fun _ => 0) 0 10) 1 20) 2 40) 3 80), rI q5 cI 10 (fun _ => 0), rI q6 cI 10 (fun _ => 0), rI q7 cI 501 (fun _ => 0), rI q8 cI 501 (fun _ => 0), rI q9 cI 4 (fun _ => 0)] := hD
  have hP2 := hP.sub (ws' := bX4 cI h0 (fun k => [h0, q1, q2, q3, q4, q5, q6, q7, q8, q9].getD k 0)) [0, 1, 2, 3, 4, 5, 6, 7, 8, 9] rfl
  have hD2 := hD.sub (ws' := bX4 cI h0 (fun k => [h0, q1, q2, q3, q4, q5, q6, q7, q8, q9].getD k 0)) [0, 1, 2, 3, 4, 5, 6, 7, 8, 9] (by decide) rfl
  exact ct_ret (B := bX4 cI h0) hx hb hrt hlk (fun k => [h0, q1, q2, q3, q4, q5, q6, q7, q8, q9].getD k 0) dX4_init_119 hP2 hD2 hS
