/-! rows for the law itself -/
section ZLAW
variable {p : Program} {l : Launch} {e : Env} {R : Room} {s : State} {m : MethodId} {args : Array Value} {below : List Frame} {meth : Method} {c : Code} {H : Heap} {locs : List Loc} {cells slots : Nat} {Q : State → Prop}
variable {cc : ByteArray} {pc : Nat} {ls : Array Slot} {rest : List Value} {A : Nat → Prop} {H0 : Heap}
theorem z_sld (hx : p.tables.exec = Jvm.exec) (hb : c.code = cc) {b L : Nat} {xs : Nat → Int32} (hX : va_X b L xs s H0) (hbl : b < H0.size) (hbA : ¬ A b) (hS : va_S A H0 H locs) (k : Nat) {z : Int} (hz : z = (k : Int)) (hk : k < L) (hL : L ≤ 2147483647) (hd : decode cc pc = .ok (.iaload, 1))
    (kk : W p l e R s m args below meth c H locs cells slots Q (F0 m (pc + 1) ls (.int (zi (xs k).toInt) :: rest))) : W p l e R s m args below meth c H locs cells slots Q (F0 m pc ls (.int (zi z) :: .ref b :: rest)) := by
  refine va_sld hx hb hX hbl hbA hS (zi_in hz hk hL) hd ?_
  rw [hz, zi_clamp k (by omega)]
  rw [zi_of] at kk
  exact kk
theorem z_slen (hx : p.tables.exec = Jvm.exec) (hb : c.code = cc) {b L : Nat} {xs : Nat → Int32} (hX : va_X b L xs s H0) (hbl : b < H0.size) (hbA : ¬ A b) (hS : va_S A H0 H locs) (hd : decode cc pc = .ok (.arraylength, 1))
    (kk : W p l e R s m args below meth c H locs cells slots Q (F0 m (pc + 1) ls (.int (zi (L : Int)) :: rest))) : W p l e R s m args below meth c H locs cells slots Q (F0 m pc ls (.ref b :: rest)) := by
  refine va_slen hx hb hX hbl hbA hS hd ?_
  have e : zi (L : Int) = nI L := zi_nI L
  rw [e] at kk
  exact kk
theorem z_and31 (hx : p.tables.exec = Jvm.exec) (hb : c.code = cc) {a : Int} (hd : decode cc pc = .ok (.iand, 1)) (kk : ∀ v : Int, 0 ≤ v ∧ v ≤ 31 → W p l e R s m args below meth c H locs cells slots Q (F0 m (pc + 1) ls (.int (zi v) :: rest))) : W p l e R s m args below meth c H locs cells slots Q (F0 m pc ls (.int (zi 31) :: .int (zi a) :: rest)) := by
  refine lv_iand hx hb hd ?_
  rw [pk_and (zi a) 5 (show (zi 31).toBitVec.toNat = 2 ^ 5 - 1 by decide), ← zi_nI]
  exact kk _ (by omega)
theorem z_sameI (hx : p.tables.exec = Jvm.exec) (hb : c.code = cc) {v : Int32} {off : Int} {tgt : Nat} (hd : decode cc pc = .ok (.if_icmp .eq off, 3)) (ht : (pc : Int) + off = (tgt : Int)) (kk : W p l e R s m args below meth c H locs cells slots Q (F0 m tgt ls rest)) : W p l e R s m args below meth c H locs cells slots Q (F0 m pc ls (.int v :: .int v :: rest)) := lv_icmp_eq hx hb hd ht (fun _ => kk) (fun h => absurd rfl h)
theorem z_sameJ (hx : p.tables.exec = Jvm.exec) (hb : c.code = cc) {v : Int64} {off : Int} {tgt : Nat} (hd : decode cc pc = .ok (.lcmp, 1)) (hd2 : decode cc (pc + 1) = .ok (.ifCond .eq off, 3)) (ht : ((pc + 1 : Nat) : Int) + off = (tgt : Int)) (kk : W p l e R s m args below meth c H locs cells slots Q (F0 m tgt ls rest)) : W p l e R s m args below meth c H locs cells slots Q (F0 m pc ls (.long v :: .long v :: rest)) := by
  refine W.lcmp hx hb hd ?_
  have e : lg_cmp v v = 0 := by simp [lg_cmp]
  rw [e]
  exact lv_if_eq hx hb hd2 ht (fun _ => kk) (fun h => absurd rfl h)
end ZLAW
theorem inW_l {A : Nat → Prop} {w1 w2 : va_W} (hD : va_D A (w1 ++ w2)) {q : Nat} (h : inW w1 q) : A q := by
  obtain ⟨k, e, hk⟩ := h
  exact hD.2 k (q, e) (by rw [List.getElem?_append_left (List.getElem?_eq_some_iff.mp hk).1]; exact hk)
theorem inW_r {A : Nat → Prop} {w1 w2 : va_W} (hD : va_D A (w1 ++ w2)) {q : Nat} (h : inW w2 q) : A q := by
  obtain ⟨k, e, hk⟩ := h
  exact hD.2 (w1.length + k) (q, e) (by rw [List.getElem?_append_right (by omega), Nat.add_sub_cancel_left]; exact hk)
theorem fr_r {A : Nat → Prop} {D : va_G} {w1 w2 : va_W} {H H1 : Heap} (hD : va_D A (w1 ++ w2)) (hP : va_P D vwCl w2 H) (hk : ∀ q : Nat, q < H.size → ¬ inW w1 q → H1[q]? = H[q]?) : va_P D vwCl w2 H1 := by
  refine hP.kept (fun k q hq => hk q.1 (hP k q hq).lt (fun h => ?_))
  obtain ⟨j, e, hj⟩ := h
  have h1 : (w1 ++ w2)[j]? = some (q.1, e) := by rw [List.getElem?_append_left (List.getElem?_eq_some_iff.mp hj).1]; exact hj
  have h2 : (w1 ++ w2)[w1.length + k]? = some q := by rw [List.getElem?_append_right (by omega), Nat.add_sub_cancel_left]; exact hq
  have h3 := hD.1 j (w1.length + k) _ _ h1 h2 rfl
  have h4 := (List.getElem?_eq_some_iff.mp hj).1
  omega
theorem fr_l {A : Nat → Prop} {D : va_G} {w1 w2 : va_W} {H H1 : Heap} (hD : va_D A (w1 ++ w2)) (hP : va_P D vwCl w1 H) (hk : ∀ q : Nat, q < H.size → ¬ inW w2 q → H1[q]? = H[q]?) : va_P D vwCl w1 H1 := by
  refine hP.kept (fun k q hq => hk q.1 (hP k q hq).lt (fun h => ?_))
  obtain ⟨j, e, hj⟩ := h
  have h1 : (w1 ++ w2)[w1.length + j]? = some (q.1, e) := by rw [List.getElem?_append_right (by omega), Nat.add_sub_cancel_left]; exact hj
  have h2 : (w1 ++ w2)[k]? = some q := by rw [List.getElem?_append_left (List.getElem?_eq_some_iff.mp hq).1]; exact hq
  have h3 := hD.1 (w1.length + j) k _ _ h1 h2 rfl
  have h4 := (List.getElem?_eq_some_iff.mp hq).1
  omega
theorem va_D.left {A : Nat → Prop} {w1 w2 : va_W} (hD : va_D A (w1 ++ w2)) : va_D A w1 := ⟨fun i j x y h1 h2 h3 => hD.1 i j x y (by rw [List.getElem?_append_left (List.getElem?_eq_some_iff.mp h1).1]; exact h1) (by rw [List.getElem?_append_left (List.getElem?_eq_some_iff.mp h2).1]; exact h2) h3, fun i q hq => hD.2 i q (by rw [List.getElem?_append_left (List.getElem?_eq_some_iff.mp hq).1]; exact hq)⟩
theorem va_D.right {A : Nat → Prop} {w1 w2 : va_W} (hD : va_D A (w1 ++ w2)) : va_D A w2 := ⟨fun i j x y h1 h2 h3 => by
  have := hD.1 (w1.length + i) (w1.length + j) x y (by rw [List.getElem?_append_right (by omega), Nat.add_sub_cancel_left]; exact h1) (by rw [List.getElem?_append_right (by omega), Nat.add_sub_cancel_left]; exact h2) h3
  omega, fun i q hq => hD.2 (w1.length + i) q (by rw [List.getElem?_append_right (by omega), Nat.add_sub_cancel_left]; exact hq)⟩
/-! what stays true of the numbers -/
theorem VU_unit {n : Int} {st hr ca : Nat → Int} (hU : VU n st hr ca) (a b d : Int) : VU (unitS n st hr ca a b d).2.1 (unitS n st hr ca a b d).2.2.1 (unitS n st hr ca a b d).2.2.2.1 (unitS n st hr ca a b d).2.2.2.2 := by
  obtain ⟨hn, hst, hhr, hh1, hca⟩ := id hU
  unfold unitS
  split
  · split
    · refine ⟨by simp only; omega, fun j => ?_, fun j => ?_, fun j hj => ?_, fun j => ?_⟩ <;> simp only at * <;> unfold uZ
      · have := hst j; split <;> omega
      · have := hhr j; split <;> omega
      · split
        · omega
        · have := hh1 j (by omega); omega
      · have := hca j; split <;> omega
    · exact hU
  · exact hU
theorem VU_set {n : Int} {st hr ca : Nat → Int} (hU : VU n st hr ca) (z a b d : Int) : VU n (setS n st hr ca z a b d).2.1 (setS n st hr ca z a b d).2.2.1 (setS n st hr ca z a b d).2.2.2 := by
  obtain ⟨hn, hst, hhr, hh1, hca⟩ := id hU
  unfold setS
  split
  · split
    · refine ⟨hn, fun j => ?_, fun j => ?_, fun j hj => ?_, fun j => ?_⟩ <;> simp only <;> unfold uZ
      · have := hst j; split <;> omega
      · have := hhr j; split <;> omega
      · have := hh1 j hj; split <;> omega
      · have := hca j; split <;> omega
    · exact hU
  · exact hU
theorem VU_drop {n : Int} {st hr ca : Nat → Int} (hU : VU n st hr ca) : VU (dropS n).2 st hr ca := by
  obtain ⟨hn, hst, hhr, hh1, hca⟩ := id hU
  unfold dropS
  split
  · exact hU
  · exact ⟨by simp only; omega, hst, hhr, fun j hj => hh1 j (by simp only at hj; omega), hca⟩
theorem VT_speed {k : Int} {ts th sp : Nat → Int} {pr hc : Int} (hV : VT k ts th sp pr hc) (a v : Int) : VT k ts th (speedS sp a v).2 pr hc := by
  obtain ⟨h1, h2, h3, h4, h5, h6, h7⟩ := id hV
  unfold speedS
  split
  · refine ⟨h1, h2, h3, h4, fun j hj => ?_, h6, h7⟩
    simp only; unfold uZ
    have := h5 j hj; split <;> omega
  · exact hV
theorem VT_step {k : Int} {ts th sp : Nat → Int} {pr hc : Int} (hV : VT k ts th sp pr hc) (a b : Int) : VT (stepS k ts th a b).2.1 (stepS k ts th a b).2.2.1 (stepS k ts th a b).2.2.2 sp pr hc := by
  obtain ⟨h1, h2, h3, h4, h5, h6, h7⟩ := id hV
  unfold stepS
  split
  · split
    · refine ⟨by simp only; omega, fun j => ?_, fun j => ?_, fun j hj => ?_, h5, h6, h7⟩ <;> simp only at * <;> unfold uZ
      · have := h2 j; split <;> omega
      · have := h3 j; split <;> omega
      · split
        · omega
        · have := h4 j (by omega); omega
    · exact hV
  · exact hV
theorem VT_clear {k : Int} {ts th sp : Nat → Int} {pr hc : Int} (hV : VT k ts th sp pr hc) : VT 0 ts th sp pr hc := by
  obtain ⟨h1, h2, h3, h4, h5, h6, h7⟩ := hV
  exact ⟨by omega, h2, h3, fun j hj => absurd hj (by omega), h5, h6, h7⟩
theorem VT_rule {k : Int} {ts th sp : Nat → Int} {pr hc : Int} (hV : VT k ts th sp pr hc) (w v : Int) : VT k ts th sp (ruleS pr hc w v).2.1 (ruleS pr hc w v).2.2 := by
  obtain ⟨h1, h2, h3, h4, h5, h6, h7⟩ := id hV
  unfold ruleS
  split
  · exact ⟨h1, h2, h3, h4, h5, by simp only; omega, h7⟩
  · split
    · exact ⟨h1, h2, h3, h4, h5, h6, by simp only; omega⟩
    · exact hV
theorem VU_0 : VU 0 (fun _ => 0) (fun _ => 0) (fun _ => 0) := ⟨by omega, fun _ => by simp, fun _ => by simp, fun j hj => absurd hj (by omega), fun _ => by simp⟩
theorem VT_0 : VT 0 (fun _ => 0) (fun _ => 0) sp0 10 1 := by
  refine ⟨by omega, fun _ => by simp, fun _ => by simp, fun j hj => absurd hj (by omega), fun j hj => ?_, by omega, by omega⟩
  have h : j = 0 ∨ j = 1 ∨ j = 2 ∨ j = 3 := by omega
  rcases h with rfl | rfl | rfl | rfl <;> simp [sp0, uZ]
theorem mx_ex (P : Nat → Prop) (h0 : P 0) : ∀ N, (∀ k, P k → k ≤ N) → ∃ k, P k ∧ ∀ j, P j → j ≤ k
  | 0, h => ⟨0, h0, h⟩
  | N + 1, h => by
    by_cases hp : P (N + 1)
    · exact ⟨N + 1, hp, h⟩
    · exact mx_ex P h0 N (fun k hk => by
        have h1 := h k hk
        rcases Nat.lt_or_ge k (N + 1) with q | q
        · omega
        · have e : k = N + 1 := by omega
          subst e
          exact absurd hk hp)
theorem best_ex {cu ch m : Int} (hm : 0 ≤ m) : ∃ a b : Int, isBest cu ch m a b := by
  obtain ⟨k, ⟨a, b, ha, hb, hf, hk⟩, hmax⟩ := mx_ex (fun k => ∃ a b : Int, (0 ≤ a ∧ a ≤ 12) ∧ (0 ≤ b ∧ b ≤ 12) ∧ feas cu ch m a b ∧ 13 * (a + b) + a = (k : Int)) ⟨0, 0, by omega, by omega, by rw [feas, Int.zero_mul, Int.zero_mul]; omega, by omega⟩ 400 (fun k ⟨a, b, h1, h2, _, h4⟩ => by omega)
  refine ⟨a, b, ha, hb, hf, fun x y hx hy hxy => ?_⟩
  obtain ⟨j, hj⟩ := Int.eq_ofNat_of_zero_le (show 0 ≤ 13 * (x + y) + x by omega)
  have := hmax j ⟨x, y, hx, hy, hxy, hj⟩
  omega
