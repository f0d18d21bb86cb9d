/-! further rows: shifts, Math, switches; the two worlds -/
theorem sl32 : ∀ n, n < 32 → ((nI n &&& 31).toBitVec.smod 32).toNat = n := by decide
theorem zi_shr {a b : Int} (h : 0 ≤ a ∧ a ≤ 2147483647 ∧ 0 ≤ b ∧ b < 32) : zi a >>> (zi b &&& 31) = zi (a / 2 ^ b.toNat) := by
  obtain ⟨x, rfl⟩ := Int.eq_ofNat_of_zero_le h.1
  obtain ⟨y, rfl⟩ := Int.eq_ofNat_of_zero_le h.2.2.1
  rw [zi_nI, zi_nI, pk_shrN (by omega) _ y (sl32 y (by omega)), ← zi_nI]
  simp
theorem zi_shl {a b : Int} (h : 0 ≤ a ∧ a ≤ 65535 ∧ 0 ≤ b ∧ b < 16) : zi a <<< (zi b &&& 31) = zi (a * 2 ^ b.toNat) := by
  obtain ⟨x, rfl⟩ := Int.eq_ofNat_of_zero_le h.1
  obtain ⟨y, rfl⟩ := Int.eq_ofNat_of_zero_le h.2.2.1
  have hy : 2 ^ y ≤ 2 ^ 15 := Nat.pow_le_pow_right (by omega) (by omega)
  have hxy : x * 2 ^ y ≤ 65535 * 2 ^ 15 := Nat.mul_le_mul (by omega) hy
  rw [zi_nI, zi_nI, pk_shlN _ y (sl32 y (by omega)) (by omega), ← zi_nI]
  simp
theorem zi_and1 {a : Int} (h : 0 ≤ a ∧ a ≤ 2147483647) : zi a &&& zi 1 = zi (a % 2) := by
  obtain ⟨x, rfl⟩ := Int.eq_ofNat_of_zero_le h.1
  rw [zi_nI, pk_andN (by omega) 1 (by decide), ← zi_nI]
  rfl
def zabs (a : Int) : Int := if 0 ≤ a then a else -a
theorem va_Pnil {D : va_G} {cl : List vw_C} {H : Heap} : va_P D cl [] H := fun k q h => by simp at h
section ZMORE
variable {p : Program} {l : Launch} {e : Env} {R : Room} {s : State} {m : MethodId} {args : Array Value} {below : List Frame} {meth : Method} {c : Code} {H : Heap} {locs : List Loc} {cells slots : Nat} {Q : State → Prop}
variable {cc : ByteArray} {pc : Nat} {ls : Array Slot} {rest : List Value}
theorem z_ishr (hx : p.tables.exec = Jvm.exec) (hb : c.code = cc) {a b : Int} (h : 0 ≤ a ∧ a ≤ 2147483647 ∧ 0 ≤ b ∧ b < 32) (hd : decode cc pc = .ok (.ishr, 1)) (k : W p l e R s m args below meth c H locs cells slots Q (F0 m (pc + 1) ls (.int (zi (a / 2 ^ b.toNat)) :: rest))) : W p l e R s m args below meth c H locs cells slots Q (F0 m pc ls (.int (zi b) :: .int (zi a) :: rest)) := lv_ishr hx hb hd (by rw [zi_shr h]; exact k)
theorem z_ishl (hx : p.tables.exec = Jvm.exec) (hb : c.code = cc) {a b : Int} (h : 0 ≤ a ∧ a ≤ 65535 ∧ 0 ≤ b ∧ b < 16) (hd : decode cc pc = .ok (.ishl, 1)) (k : W p l e R s m args below meth c H locs cells slots Q (F0 m (pc + 1) ls (.int (zi (a * 2 ^ b.toNat)) :: rest))) : W p l e R s m args below meth c H locs cells slots Q (F0 m pc ls (.int (zi b) :: .int (zi a) :: rest)) := lv_ishl hx hb hd (by rw [zi_shl h]; exact k)
theorem z_iand1 (hx : p.tables.exec = Jvm.exec) (hb : c.code = cc) {a : Int} (h : 0 ≤ a ∧ a ≤ 2147483647) (hd : decode cc pc = .ok (.iand, 1)) (k : W p l e R s m args below meth c H locs cells slots Q (F0 m (pc + 1) ls (.int (zi (a % 2)) :: rest))) : W p l e R s m args below meth c H locs cells slots Q (F0 m pc ls (.int (zi 1) :: .int (zi a) :: rest)) := lv_iand hx hb hd (by rw [zi_and1 h]; exact k)
theorem z_mmax (hx : p.tables.exec = Jvm.exec) (hb : c.code = cc) (hml : c.maxLocals = ls.size) {own : String} {index : Nat} (hown : s.vm.findClass own = some m.cls) (hlink : (Cond.methodLink own index Lib.Math.max.name).before args s = true) (hstat : (Cond.static Lib.Math.max.name).before args s = true) (hini : (Cond.initialized "java/lang/Math").before args s = true) (hcode : (Cond.code Lib.Math.max.name Lib.Math.max.code 2 (some .int)).before args s = true)
    (hframes : 1 ≤ R.frames) (hlocals : (rest.map fun v => v.category).sum + 13 ≤ R.locals) (hc : cells ≤ R.cells) (hs : slots ≤ R.slots) {a b : Int} (ha : -2147483648 ≤ a ∧ a ≤ 2147483647) (hb2 : -2147483648 ≤ b ∧ b ≤ 2147483647) (hd : decode cc pc = .ok (.invokestatic index, 3))
    (k : W p l e R s m args below meth c H locs cells slots Q (F0 m (pc + 3) ls (.int (zi (max a b)) :: rest))) : W p l e R s m args below meth c H locs cells slots Q (F0 m pc ls (.int (zi b) :: .int (zi a) :: rest)) := by
  refine va_mmax hx hb hml hown hlink hstat hini hcode hframes hlocals hc hs hd ?_
  have e : (if zi a < zi b then zi b else zi a) = zi (max a b) := by
    by_cases h : a < b
    · rw [if_pos ((zi_lt ha hb2).mpr h), Int.max_eq_right (by omega)]
    · rw [if_neg (fun q => h ((zi_lt ha hb2).mp q)), Int.max_eq_left (by omega)]
  rw [e]; exact k
theorem z_mmin (hx : p.tables.exec = Jvm.exec) (hb : c.code = cc) (hml : c.maxLocals = ls.size) {own : String} {index : Nat} (hown : s.vm.findClass own = some m.cls) (hlink : (Cond.methodLink own index Lib.Math.min.name).before args s = true) (hstat : (Cond.static Lib.Math.min.name).before args s = true) (hini : (Cond.initialized "java/lang/Math").before args s = true) (hcode : (Cond.code Lib.Math.min.name Lib.Math.min.code 2 (some .int)).before args s = true)
    (hframes : 1 ≤ R.frames) (hlocals : (rest.map fun v => v.category).sum + 13 ≤ R.locals) (hc : cells ≤ R.cells) (hs : slots ≤ R.slots) {a b : Int} (ha : -2147483648 ≤ a ∧ a ≤ 2147483647) (hb2 : -2147483648 ≤ b ∧ b ≤ 2147483647) (hd : decode cc pc = .ok (.invokestatic index, 3))
    (k : W p l e R s m args below meth c H locs cells slots Q (F0 m (pc + 3) ls (.int (zi (min a b)) :: rest))) : W p l e R s m args below meth c H locs cells slots Q (F0 m pc ls (.int (zi b) :: .int (zi a) :: rest)) := by
  refine va_mmin hx hb hml hown hlink hstat hini hcode hframes hlocals hc hs hd ?_
  have e : (if zi b < zi a then zi b else zi a) = zi (min a b) := by
    by_cases h : b < a
    · rw [if_pos ((zi_lt hb2 ha).mpr h), Int.min_eq_right (by omega)]
    · rw [if_neg (fun q => h ((zi_lt hb2 ha).mp q)), Int.min_eq_left (by omega)]
  rw [e]; exact k
theorem z_mabs (hx : p.tables.exec = Jvm.exec) (hb : c.code = cc) (hml : c.maxLocals = ls.size) {own : String} {index : Nat} (hown : s.vm.findClass own = some m.cls) (hlink : (Cond.methodLink own index Lib.Math.abs.name).before args s = true) (hstat : (Cond.static Lib.Math.abs.name).before args s = true) (hini : (Cond.initialized "java/lang/Math").before args s = true) (hcode : (Cond.code Lib.Math.abs.name Lib.Math.abs.code 1 (some .int)).before args s = true)
    (hframes : 1 ≤ R.frames) (hlocals : (rest.map fun v => v.category).sum + 13 ≤ R.locals) (hc : cells ≤ R.cells) (hs : slots ≤ R.slots) {a : Int} (ha : -2147483648 ≤ a ∧ a ≤ 2147483647) (hd : decode cc pc = .ok (.invokestatic index, 3))
    (k : W p l e R s m args below meth c H locs cells slots Q (F0 m (pc + 3) ls (.int (zi (zabs a)) :: rest))) : W p l e R s m args below meth c H locs cells slots Q (F0 m pc ls (.int (zi a) :: rest)) := by
  refine va_mabs hx hb hml hown hlink hstat hini hcode hframes hlocals hc hs hd ?_
  have e : (if 0 ≤ zi a then zi a else 0 - zi a) = zi (zabs a) := by
    have h0 : (0 : Int32) = zi 0 := rfl
    unfold zabs
    by_cases h : 0 ≤ a
    · rw [if_pos h, h0, if_pos ((zi_le (by omega) ha).mpr h)]
    · rw [if_neg h, h0, if_neg (fun q => h ((zi_le (by omega) ha).mp q)), zi_sub]; congr 1; omega
  rw [e]; exact k
theorem z_tabOut (hx : p.tables.exec = Jvm.exec) (hb : c.code = cc) {dflt lo hi : Int} {offs : Array Int} {len : Nat} {a : Int} {tgt : Nat} (hd : decode cc pc = .ok (.tableswitch dflt lo hi offs, len)) (ha : -2147483648 ≤ a ∧ a ≤ 2147483647) (h : a < lo ∨ hi < a) (ht : (pc : Int) + dflt = (tgt : Int))
    (k : W p l e R s m args below meth c H locs cells slots Q (F0 m tgt ls rest)) : W p l e R s m args below meth c H locs cells slots Q (F0 m pc ls (.int (zi a) :: rest)) := lv_tableOut hx hb hd (by rw [zi_toInt ha]; exact h) ht k
theorem z_tabIn (hx : p.tables.exec = Jvm.exec) (hb : c.code = cc) {dflt lo hi : Int} {offs : Array Int} {len : Nat} {a : Int} (v : Int) {off : Int} {tgt : Nat} (hd : decode cc pc = .ok (.tableswitch dflt lo hi offs, len)) (hv : a = v) (hr : -2147483648 ≤ v ∧ v ≤ 2147483647) (h1 : lo ≤ v) (h2 : v ≤ hi) (ho : offs[(v - lo).toNat]? = some off) (ht : (pc : Int) + off = (tgt : Int))
    (k : W p l e R s m args below meth c H locs cells slots Q (F0 m tgt ls rest)) : W p l e R s m args below meth c H locs cells slots Q (F0 m pc ls (.int (zi a) :: rest)) := by
  subst hv
  exact lv_tableIn hx hb hd (by rw [zi_toInt hr]; omega) (by rw [zi_toInt hr]; omega) (by rw [zi_toInt hr]; exact ho) ht k
end ZMORE
abbrev wX (ad : Nat → Nat) (cI cJ : ClassId) (n : Int) (st hr ca : Nat → Int) (pcs : Int) (fr lv : Nat → Int) (k : Int) (ts th sp hv : Nat → Int) (pr hc : Int) : va_W :=
  [(ad 0, .inr (3, [.ref (ad 1), .ref (ad 2), .ref (ad 3), .ref (ad 4), .ref (ad 5), .int (zi pr), .int (zi hc)])),
   (ad 1, .inr (2, [.ref (ad 6), .ref (ad 7), .ref (ad 8), .int (zi n)])),
   (ad 2, .inr (0, [.ref (ad 9), .ref (ad 10), .int (zi pcs)])),
   (ad 3, .inr (1, [.ref (ad 11), .ref (ad 12), .int (zi k)])),
   (ad 4, .inl (cI, 4, .inl (fun j => zi (sp j)))),
   (ad 5, .inl (cI, 4, .inl (fun j => zi (hv j)))),
   (ad 6, .inl (cI, 12, .inl (fun j => zi (st j)))),
   (ad 7, .inl (cI, 12, .inl (fun j => zi (hr j)))),
   (ad 8, .inl (cI, 12, .inl (fun j => zi (ca j)))),
   (ad 9, .inl (cI, 13, .inl (fun j => zi (fr j)))),
   (ad 10, .inl (cJ, 13, .inr (.inl (fun j => zj (lv j))))),
   (ad 11, .inl (cI, 10, .inl (fun j => zi (ts j)))),
   (ad 12, .inl (cI, 10, .inl (fun j => zi (th j))))]
abbrev wM (ad : Nat → Nat) (cI : ClassId) (n : Int) (st hr ca sp : Nat → Int) (k : Int) (ts th : Nat → Int) (pr hc lu ll up lo : Int) (fr rr hv : Nat → Int) : va_W :=
  [(ad 0, .inr (4, [.int (zi n), .ref (ad 1), .ref (ad 2), .ref (ad 3), .ref (ad 4), .int (zi k), .ref (ad 5), .ref (ad 6), .int (zi pr), .int (zi hc), .long (zj lu), .long (zj ll), .long (zj up), .long (zj lo), .ref (ad 7), .ref (ad 8), .ref (ad 9)])),
   (ad 1, .inl (cI, 12, .inl (fun j => zi (st j)))),
   (ad 2, .inl (cI, 12, .inl (fun j => zi (hr j)))),
   (ad 3, .inl (cI, 12, .inl (fun j => zi (ca j)))),
   (ad 4, .inl (cI, 4, .inl (fun j => zi (sp j)))),
   (ad 5, .inl (cI, 10, .inl (fun j => zi (ts j)))),
   (ad 6, .inl (cI, 10, .inl (fun j => zi (th j)))),
   (ad 7, .inl (cI, 501, .inl (fun j => zi (fr j)))),
   (ad 8, .inl (cI, 501, .inl (fun j => zi (rr j)))),
   (ad 9, .inl (cI, 4, .inl (fun j => zi (hv j))))]
/-- what holds of the UNITS' numbers -/
def VU (n : Int) (st hr ca : Nat → Int) : Prop := (0 ≤ n ∧ n ≤ 12) ∧ (∀ j : Nat, 0 ≤ st j ∧ st j ≤ 3) ∧ (∀ j : Nat, 0 ≤ hr j ∧ hr j ≤ 500) ∧ (∀ j : Nat, (j : Int) < n → 1 ≤ hr j) ∧ (∀ j : Nat, -1 ≤ ca j ∧ ca j ≤ 2)
/-- of the TRIAL's, the SPEEDS and the rules -/
def VT (k : Int) (ts th sp : Nat → Int) (pr hc : Int) : Prop := (0 ≤ k ∧ k ≤ 10) ∧ (∀ j : Nat, 0 ≤ ts j ∧ ts j ≤ 3) ∧ (∀ j : Nat, 0 ≤ th j ∧ th j ≤ 500) ∧ (∀ j : Nat, (j : Int) < k → 1 ≤ th j) ∧ (∀ j : Nat, j < 4 → 1 ≤ sp j ∧ sp j ≤ 1000) ∧ (1 ≤ pr ∧ pr ≤ 500) ∧ (0 ≤ hc ∧ hc ≤ 20)
theorem lp_up (P : Nat → Prop) (N : Nat) (hend : P N) (hstep : ∀ u, u < N → P (u + 1) → P u) : ∀ u, u ≤ N → P u := by
  intro u hu
  obtain ⟨d, rfl⟩ := Nat.exists_eq_add_of_le hu
  clear hu
  induction d generalizing u with
  | zero => exact hend
  | succ d ih =>
    refine hstep u (by omega) ?_
    have e : u + (d + 1) = (u + 1) + d := by omega
    exact ih (u + 1) (e ▸ hend) (fun v hv hP => hstep v (by omega) hP)
theorem inW_same {ws ws' : va_W} (he : ws.map Prod.fst = ws'.map Prod.fst) {q : Nat} (h : inW ws q) : inW ws' q := by
  obtain ⟨k, e, hk⟩ := h
  have h1 : (ws.map Prod.fst)[k]? = some q := by rw [List.getElem?_map, hk]; rfl
  rw [he, List.getElem?_map] at h1
  cases hw : ws'[k]? with
  | none => rw [hw] at h1; cases h1
  | some x =>
    rw [hw] at h1
    have h2 : x.1 = q := Option.some.inj h1
    exact ⟨k, x.2, by rw [hw, ← h2]⟩
