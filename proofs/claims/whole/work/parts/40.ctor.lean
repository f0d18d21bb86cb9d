/-! constructors -/
def RMc (f k sl lo : Nat) : Room := { frames := f, cells := k, slots := sl, locals := lo }
abbrev rI (q : Nat) (cI : ClassId) (N : Nat) (f : Nat → Int) : Nat × va_E := (q, .inl (cI, N, .inl (fun j => zi (f j))))
abbrev rJ (q : Nat) (cJ : ClassId) (N : Nat) (f : Nat → Int) : Nat × va_E := (q, .inl (cJ, N, .inr (.inl (fun j => zj (f j)))))
def CTR (D : va_G) (cI cJ : ClassId) (l : Launch) (y : MethodName) (cc : ByteArray) (f k sl lo ci : Nat) (fs : List Value) (B : Nat → (Nat → Nat) → va_W) : Prop :=
  ∀ h0 sz : Nat, Met l y (Cond.code y cc 1 none :: TT) (RMc f k sl lo) (va_Pc [.ref h0] (fun U => U.heap.size = sz ∧ KK D cI cJ U ∧ va_P D vwCl [(h0, .inr (ci, fs))] U.heap)) (va_Qv (fun _ : Nat → Nat => True) (fun u t => va_P D vwCl (B h0 u) t.heap ∧ va_D (va_A [(h0, .inr (ci, fs))] sz) (B h0 u)) (va_A [(h0, .inr (ci, fs))] sz)) k sl (va_A [(h0, .inr (ci, fs))] sz)
theorem va_D1 {A : Nat → Prop} {q : Nat × va_E} (h : A q.1) : va_D A [q] := by
  refine ⟨fun i j x y h1 h2 _ => ?_, fun k x hx => ?_⟩
  · have e1 := (List.getElem?_eq_some_iff.mp h1).1
    have e2 := (List.getElem?_eq_some_iff.mp h2).1
    simp at e1 e2
    omega
  · have e1 := (List.getElem?_eq_some_iff.mp hx).1
    simp at e1
    subst e1
    cases hx
    exact h
theorem CTR.of {D : va_G} {cI cJ : ClassId} {l : Launch} {y : MethodName} {cc : ByteArray} {f k sl lo ci : Nat} {fs : List Value} {B : Nat → (Nat → Nat) → va_W} (hy : plainName y.cls = true) (hyn : y.name = "<init>")
    (body : ∀ (p : Program) (e : Env) (s : State) (m : MethodId) (args : Array Value) (below : List Frame) (meth : Method) (c : Code) (h0 : Nat) (A : Nat → Prop), p.tables.exec = Jvm.exec → c.code = cc → meth.sig.returnType = none → c.maxLocals = 1 → s.vm.findClass y.cls = some m.cls → (∀ w ∈ TT, w.before args s = true) → meth.locks = false → meth.name = "<init>" → KK D cI cJ s → (∀ q : Nat, s.heap.size ≤ q → A q) → va_P D vwCl [(h0, .inr (ci, fs))] s.heap → va_D A [(h0, .inr (ci, fs))] → va_S A s.heap s.heap [] → ∀ ls : Array Slot, lv_has ls 1 [(0, .ref h0)] →
      W p l e (RMc f k sl lo) s m args below meth c s.heap [] 0 0 (MQ below (va_Qv (fun _ : Nat → Nat => True) (fun u t => va_P D vwCl (B h0 u) t.heap ∧ va_D A (B h0 u)) A) args s k sl A) (F0 m 0 ls [])) : CTR D cI cJ l y cc f k sl lo ci fs B := by
  intro h0 sz
  refine Met.ofW (cc := cc) (maxL := 1) (ret := none) hy rfl ?_
  intro p e s m args below meth c s₁ B2 hml hv
  obtain ⟨rfl, hsz, hK, hP⟩ := hv
  subst hsz
  have hts := atoms_spec (ws := Cond.code y cc 1 none :: TT) B2.pre
  have hown : s.vm.findClass y.cls = some m.cls := findClass_of_methodNamed B2.named
  have hin : meth.name = "<init>" := ((name_of_methodNamed B2.named B2.method).1).trans hyn
  rw [lg_entry_eq]
  exact body p e s m _ below meth c h0 _ B2.exec B2.bytes B2.returns hml hown (fun w h => hts w (List.mem_cons_of_mem _ h)) B2.notSynchronized hin hK (fun q h => Or.inr h) hP (va_D1 (Or.inl ⟨0, _, rfl⟩)) va_S.rf _ (lv_entry [.ref h0] (Nat.le_of_ble_eq_true rfl))
section ZCTOR
variable {p : Program} {l : Launch} {e : Env} {R : Room} {s : State} {m : MethodId} {args : Array Value} {below : List Frame} {meth : Method} {c : Code} {H : Heap} {locs : List Loc} {cells slots : Nat} {Q : State → Prop}
variable {cc : ByteArray} {pc : Nat} {ls : Array Slot} {rest : List Value} {D : va_G} {cI cJ : ClassId} {A : Nat → Prop} {H0 : Heap} {ws : va_W}
theorem z_newI (hx : p.tables.exec = Jvm.exec) (hb : c.code = cc) (hT : ∀ w ∈ TT, w.before args s = true) (hK : KK D cI cJ s) (hP : va_P D vwCl ws H) (hD : va_D A ws) (hS : va_S A H0 H locs) (hA : ∀ q, H0.size ≤ q → A q) (N : Nat) (hN : N ≤ 1000) (hc : cells + 1 ≤ R.cells) (hs : slots + N ≤ R.slots) {z : Int} (hz : z = (N : Int)) (hd : decode cc pc = .ok (.newarray .int, 2))
    (kk : ∀ (q : Nat) (H1 : Heap), va_P D vwCl (ws ++ [rI q cI N (fun _ => 0)]) H1 → va_D A (ws ++ [rI q cI N (fun _ => 0)]) → va_S A H0 H1 locs → W p l e R s m args below meth c H1 locs (cells + 1) (slots + N) Q (F0 m (pc + 2) ls (.ref q :: rest))) : W p l e R s m args below meth c H locs cells slots Q (F0 m pc ls (.int (zi z) :: rest)) := by
  subst hz
  refine va_newa (atype := .int) (ty := .int) (a0 := (N, .inl (fun _ => 0))) hx hb (hT _ tw_38) rfl hK.1 hP hD hS hA (fun cA => rfl) ?_ (zi_clamp N (by omega)) (by show N * 4 ≤ _; omega) hc hs hd (fun q cA H1 hK1 hP1 hD1 hS1 => ?_)
  · intro h
    have h2 := (zi_lt (b := 0) (by omega) (by omega)).mp h
    omega
  · have e1 := (hK1.2 2 (cA, .int) rfl).2
    have e2 := (hK.1.2 0 (cI, .int) rfl).2
    have e3 : cA = cI := Option.some.inj (Eq.trans (Eq.symm e1) e2)
    subst e3
    exact kk q H1 hP1 hD1 hS1
theorem z_newJ (hx : p.tables.exec = Jvm.exec) (hb : c.code = cc) (hT : ∀ w ∈ TT, w.before args s = true) (hK : KK D cI cJ s) (hP : va_P D vwCl ws H) (hD : va_D A ws) (hS : va_S A H0 H locs) (hA : ∀ q, H0.size ≤ q → A q) (N : Nat) (hN : N ≤ 1000) (hc : cells + 1 ≤ R.cells) (hs : slots + N ≤ R.slots) {z : Int} (hz : z = (N : Int)) (hd : decode cc pc = .ok (.newarray .long, 2))
    (kk : ∀ (q : Nat) (H1 : Heap), va_P D vwCl (ws ++ [rJ q cJ N (fun _ => 0)]) H1 → va_D A (ws ++ [rJ q cJ N (fun _ => 0)]) → va_S A H0 H1 locs → W p l e R s m args below meth c H1 locs (cells + 1) (slots + N) Q (F0 m (pc + 2) ls (.ref q :: rest))) : W p l e R s m args below meth c H locs cells slots Q (F0 m pc ls (.int (zi z) :: rest)) := by
  subst hz
  refine va_newa (atype := .long) (ty := .long) (a0 := (N, .inr (.inl (fun _ => 0)))) hx hb (hT _ tw_55) rfl hK.1 hP hD hS hA (fun cA => rfl) ?_ (zi_clamp N (by omega)) (by show N * 8 ≤ _; omega) hc hs hd (fun q cA H1 hK1 hP1 hD1 hS1 => ?_)
  · intro h
    have h2 := (zi_lt (b := 0) (by omega) (by omega)).mp h
    omega
  · have e1 := (hK1.2 2 (cA, .long) rfl).2
    have e2 := (hK.1.2 1 (cJ, .long) rfl).2
    have e3 : cA = cJ := Option.some.inj (Eq.trans (Eq.symm e1) e2)
    subst e3
    exact kk q H1 hP1 hD1 hS1
/-- the end of a constructor -/
theorem ct_ret (hx : p.tables.exec = Jvm.exec) (hb : c.code = cc) (hr : meth.sig.returnType = none) (hlk : meth.locks = false) {B : (Nat → Nat) → va_W} (u : Nat → Nat) (hd : decode cc pc = .ok (.return_, 1)) (hP : va_P D vwCl (B u) H) (hD : va_D A (B u)) (hS : va_S A s.heap H locs) : W p l e R s m args below meth c H locs cells slots (MQ below (va_Qv (fun _ : Nat → Nat => True) (fun u t => va_P D vwCl (B u) t.heap ∧ va_D A (B u)) A) args s cells slots A) (F0 m pc ls []) :=
  W.vret hx hb hr (fun t ht _ => ⟨⟨u, rfl, trivial, by rw [ht]; exact hP, hD⟩, hS.F ht⟩) hS.2.2 hd hlk
/-- a call of a constructor -/
theorem ct_I (hx : p.tables.exec = Jvm.exec) (hb : c.code = cc) {nL : Nat} (hml : c.maxLocals = nL) {own : String} (hown : s.vm.findClass own = some m.cls) (hT : ∀ w ∈ TT, w.before args s = true) (hK : KK D cI cJ s) {y : MethodName} {bytes : ByteArray} {f k sl lo ci idx b : Nat} {fs : List Value} {B : Nat → (Nat → Nat) → va_W} {st : List Value}
    (hM : CTR D cI cJ l y bytes f k sl lo ci fs B) (hc : Cond.code y bytes 1 none ∈ TT) (hi : Cond.instanceMethod y ∈ TT) (hini : Cond.initialized y.cls ∈ TT) (hyd : y.name = "<init>" ∧ y.cls ≠ "java/lang/invoke/MethodHandle" ∧ y.cls ≠ "java/lang/invoke/VarHandle" ∧ (parseMethodDescriptor y.desc).map (fun d => d.parameters.length) = some 0) (hl : Cond.methodLink own idx y ∈ TT)
    {wr : va_W} (hP : va_P D vwCl (wr ++ [(b, .inr (ci, fs))]) H) (hD : va_D A (wr ++ [(b, .inr (ci, fs))])) (hS : va_S A H0 H locs) (hA : ∀ q, H0.size ≤ q → A q) (hR : f + 1 ≤ R.frames ∧ 8 + (1 + 11) + lo ≤ R.locals) (hsz : ls.size = nL) (hst : st = .ref b :: rest) (hcat : (rest.map fun v => v.category).sum ≤ 8) (hf : cells + k ≤ R.cells ∧ slots + sl ≤ R.slots) (hd : decode cc pc = .ok (.invokespecial idx, 3))
    (kk : ∀ (u : Nat → Nat) (H1 : Heap) (locs1 : List Loc), va_P D vwCl (wr ++ B b u) H1 → va_D A (wr ++ B b u) → va_S A H0 H1 locs1 → W p l e R s m args below meth c H1 locs1 (cells + k) (slots + sl) Q (F0 m (pc + 3) ls rest)) : W p l e R s m args below meth c H locs cells slots Q (F0 m pc ls st) := by
  subst hst
  have hPc : va_P D vwCl [(b, .inr (ci, fs))] H := fun j q hq => hP (wr.length + j) q (by rw [List.getElem?_append_right (by omega), Nat.add_sub_cancel_left]; exact hq)
  have hbA : A b := hD.2 wr.length (b, .inr (ci, fs)) (by rw [List.getElem?_append_right (by omega), Nat.sub_self]; rfl)
  have hFc : ∀ q, va_A [(b, .inr (ci, fs))] H.size q → A q := fun q h => by
    rcases h with ⟨j, e, h⟩ | h
    · have e1 := (List.getElem?_eq_some_iff.mp h).1
      simp at e1
      subst e1
      cases h
      exact hbA
    · exact hA q (Nat.le_trans hS.1 h)
  refine va_callv (va_runI (As := []) (rest := rest) (Ts := TT) ⟨hx, hb, hml, hown, hT⟩ (hM b H.size) ⟨callB_of 0 hT (TT_wd hc) rfl rfl rfl (hT _ hini) (hT _ hl) hyd.2 hR, hyd.1, hT _ hi⟩ ⟨fun a U g mk q => ⟨q.1, q.2.1, q.2.2.1.call, q.2.2.2⟩, fun U hU hW => ⟨rfl, by rw [hU], hK.warm hW, by rw [hU]; exact hPc⟩⟩ rfl rfl hsz rfl (lv_room hcat) hd hf) hS (fun q _ h => hFc q h) hFc (fun u t H1 locs1 ht hvm hw hB hz1 hk1 hS1 => ?_)
  obtain ⟨hP1, hD1⟩ := hB
  rw [ht] at hP1
  have apart : ∀ (i : Nat) (q : Nat × va_E), wr[i]? = some q → q.1 < H.size ∧ ¬ va_A [(b, .inr (ci, fs))] H.size q.1 := by
    intro i q hq
    have hi2 : (wr ++ [(b, .inr (ci, fs))])[i]? = some q := by rw [List.getElem?_append_left (List.getElem?_eq_some_iff.mp hq).1]; exact hq
    have hlt := (hP i q hi2).lt
    refine ⟨hlt, fun h => ?_⟩
    rcases h with ⟨j, e, h⟩ | h
    · have e1 := (List.getElem?_eq_some_iff.mp h).1
      simp at e1
      subst e1
      have e2 : b = q.1 := by cases h; rfl
      have e3 := hD.1 i wr.length q (b, .inr (ci, fs)) hi2 (by rw [List.getElem?_append_right (by omega), Nat.sub_self]; rfl) e2.symm
      have e4 := (List.getElem?_eq_some_iff.mp hq).1
      omega
    · omega
  refine kk u H1 locs1 (va_P.app (fun i q hq => ?_) hP1) (va_D.app ⟨fun i j x y h1 h2 h3 => ?_, fun i q hq => ?_⟩ (hD1.weaken (fun i q _ h => hFc q.1 h)) (fun i j x y h1 h2 h3 => ?_)) hS1
  · obtain ⟨g1, g2⟩ := apart i q hq
    have hi2 : (wr ++ [(b, .inr (ci, fs))])[i]? = some q := by rw [List.getElem?_append_left (List.getElem?_eq_some_iff.mp hq).1]; exact hq
    exact (hP i q hi2).kept (hk1 q.1 g1 g2)
  · have a1 : (wr ++ [(b, .inr (ci, fs))])[i]? = some x := by rw [List.getElem?_append_left (List.getElem?_eq_some_iff.mp h1).1]; exact h1
    have a2 : (wr ++ [(b, .inr (ci, fs))])[j]? = some y := by rw [List.getElem?_append_left (List.getElem?_eq_some_iff.mp h2).1]; exact h2
    exact hD.1 i j x y a1 a2 h3
  · exact hD.2 i q (by rw [List.getElem?_append_left (List.getElem?_eq_some_iff.mp hq).1]; exact hq)
  · exact (apart i x h1).2 (by rw [h3]; exact hD1.2 j y h2)
end ZCTOR
