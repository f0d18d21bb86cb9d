/-! the nest mates' links, which are carried along; what every method of the two systems takes as given -/
def NW (U : State) : Prop := va_Nw (.methodLinkNest RX3 9 yX2_init RX3) U ∧ va_Nw (.methodLinkNest RX3 18 yX0_init RX3) U ∧ va_Nw (.methodLinkNest RX3 25 yX1_init RX3) U ∧ va_Nw (.methodLinkNest RX2 25 yX3_isWithin RX3) U ∧ va_Nw (.methodLinkNest RX0 56 yX3_leastTerms RX3) U
theorem NW.warm {s U : State} (hW : s.WarmedH U.vm) (h : NW s) : NW U := ⟨va_Nw.warmM hW h.1, va_Nw.warmM hW h.2.1, va_Nw.warmM hW h.2.2.1, va_Nw.warmM hW h.2.2.2.1, va_Nw.warmM hW h.2.2.2.2⟩
theorem NW.same {u U : State} (hv : u.vm = U.vm) (h : NW u) : NW U := ⟨va_Nw.same rfl hv h.1, va_Nw.same rfl hv h.2.1, va_Nw.same rfl hv h.2.2.1, va_Nw.same rfl hv h.2.2.2.1, va_Nw.same rfl hv h.2.2.2.2⟩
def KK (D : va_G) (cI cJ : ClassId) (U : State) : Prop := va_K D vwCl [(cI, .int), (cJ, .long)] U ∧ NW U
theorem KK.warm {D : va_G} {cI cJ : ClassId} {s U : State} (hW : s.WarmedH U.vm) (h : KK D cI cJ s) : KK D cI cJ U := ⟨va_K.moved hW.alike h.1, h.2.warm hW⟩
theorem KK.call {D : va_G} {cI cJ : ClassId} {U : State} {g : JFrame} {mk : MethodId} {a : Array Value} (h : KK D cI cJ U) : KK D cI cJ (U.calling g mk a) := ⟨va_K.moved (u := U) (U := U.calling g mk a) (Vm.Alike.refl U.vm) h.1, h.2.same rfl⟩
def RM (f lo : Nat) : Room := { frames := f, cells := 0, slots := 0, locals := lo }
/-- the cells of a world -/
def inW (ws : va_W) (q : Nat) : Prop := ∃ (k : Nat) (e : va_E), ws[k]? = some (q, e)
def QR (v : Value) (Hh : Heap) : Array Value → State → Outcome → State → Prop := fun _ _ oc t => oc = .returned (some v) ∧ t.heap = Hh
/-- a method that reads: it answers v, the heap stays -/
def RD (D : va_G) (cI cJ : ClassId) (l : Launch) (y : MethodName) (cc : ByteArray) (n : Nat) (ret : Option FieldType) (f lo : Nat) (As : List Value) (ws : va_W) (v : Value) : Prop :=
  ∀ Hh : Heap, Met l y (Cond.code y cc n ret :: TT) (RM f lo) (va_Pc As (fun U => U.heap = Hh ∧ KK D cI cJ U ∧ va_P D vwCl ws Hh)) (QR v Hh) 0 0 (fun _ => False)
def QW (D : va_G) (ws : va_W) (Φ : Value → va_W → Prop) : Array Value → State → Outcome → State → Prop := fun _ st oc t => (∃ (v : Value) (ws' : va_W), oc = .returned (some v) ∧ Φ v ws' ∧ va_P D vwCl ws' t.heap) ∧ va_F (inW ws) st t
def QV (D : va_G) (ws : va_W) (Φ : va_W → Prop) : Array Value → State → Outcome → State → Prop := fun _ st oc t => (∃ (ws' : va_W), oc = .returned none ∧ Φ ws' ∧ va_P D vwCl ws' t.heap) ∧ va_F (inW ws) st t
def PW (D : va_G) (cI cJ : ClassId) (ws : va_W) (U : State) : Prop := KK D cI cJ U ∧ va_P D vwCl ws U.heap ∧ va_D (fun _ => True) ws
/-- a method that writes in its world and answers -/
def WR (D : va_G) (cI cJ : ClassId) (l : Launch) (y : MethodName) (cc : ByteArray) (n : Nat) (ret : Option FieldType) (f lo : Nat) (As : List Value) (ws : va_W) (Φ : Value → va_W → Prop) : Prop :=
  Met l y (Cond.code y cc n ret :: TT) (RM f lo) (va_Pc As (PW D cI cJ ws)) (QW D ws Φ) 0 0 (inW ws)
/-- a method that writes in its world, without an answer -/
def WV (D : va_G) (cI cJ : ClassId) (l : Launch) (y : MethodName) (cc : ByteArray) (n : Nat) (f lo : Nat) (As : List Value) (ws : va_W) (Φ : va_W → Prop) : Prop :=
  Met l y (Cond.code y cc n none :: TT) (RM f lo) (va_Pc As (PW D cI cJ ws)) (QV D ws Φ) 0 0 (inW ws)
theorem va_D.inW {ws : va_W} {A : Nat → Prop} (h : va_D A ws) : va_D (inW ws) ws := ⟨h.1, fun k q hk => ⟨k, q.2, hk⟩⟩
/-- apartness is of the addresses alone -/
theorem va_D.same {A : Nat → Prop} {ws ws' : va_W} (h : va_D A ws) (he : ws.map Prod.fst = ws'.map Prod.fst) : va_D A ws' := by
  have at' : ∀ (i : Nat) (q : Nat × va_E), ws'[i]? = some q → ∃ e, ws[i]? = some (q.1, e) := by
    intro i q hq
    have h1 : (ws'.map Prod.fst)[i]? = some q.1 := by rw [List.getElem?_map, hq]; rfl
    rw [← he, List.getElem?_map] at h1
    cases hw : ws[i]? with
    | none => rw [hw] at h1; cases h1
    | some x =>
      rw [hw] at h1
      have h2 : x.1 = q.1 := Option.some.inj h1
      exact ⟨x.2, by rw [← h2]⟩
  refine ⟨fun i j p q hp hq e => ?_, fun k q hk => ?_⟩
  · obtain ⟨e1, h1⟩ := at' i p hp
    obtain ⟨e2, h2⟩ := at' j q hq
    exact h.1 i j _ _ h1 h2 e
  · obtain ⟨e1, h1⟩ := at' k q hk
    exact h.2 k (q.1, e1) h1
theorem RD.of {D : va_G} {cI cJ : ClassId} {l : Launch} {y : MethodName} {cc : ByteArray} {n : Nat} {ret : Option FieldType} {f lo : Nat} {As : List Value} {ws : va_W} {v : Value} (hy : plainName y.cls = true) (hn : (lg_sl As).length ≤ n)
    (body : ∀ (p : Program) (e : Env) (s : State) (m : MethodId) (args : Array Value) (below : List Frame) (meth : Method) (c : Code), p.tables.exec = Jvm.exec → c.code = cc → meth.sig.returnType = ret → c.maxLocals = n → s.vm.findClass y.cls = some m.cls → (∀ w ∈ TT, w.before args s = true) → meth.locks = false → KK D cI cJ s → va_P D vwCl ws s.heap → ∀ ls : Array Slot, lv_has ls n (lv_args 0 As) →
      W p l e (RM f lo) s m args below meth c s.heap [] 0 0 (MQ below (QR v s.heap) args s 0 0 (fun _ => False)) (F0 m 0 ls [])) : RD D cI cJ l y cc n ret f lo As ws v := by
  intro Hh
  refine Met.ofW (cc := cc) (maxL := n) (ret := ret) hy rfl ?_
  intro p e s m args below meth c s₁ B hml hv
  obtain ⟨rfl, hh, hK, hP⟩ := hv
  have hts := atoms_spec (ws := Cond.code y cc n ret :: TT) B.pre
  have hown : s.vm.findClass y.cls = some m.cls := findClass_of_methodNamed B.named
  rw [lg_entry_eq]
  subst hh
  exact body p e s m _ below meth c B.exec B.bytes B.returns hml hown (fun w h => hts w (List.mem_cons_of_mem _ h)) B.notSynchronized hK hP _ (lv_entry As hn)
theorem WR.of {D : va_G} {cI cJ : ClassId} {l : Launch} {y : MethodName} {cc : ByteArray} {n : Nat} {ret : Option FieldType} {f lo : Nat} {As : List Value} {ws : va_W} {Φ : Value → va_W → Prop} (hy : plainName y.cls = true) (hn : (lg_sl As).length ≤ n)
    (body : ∀ (p : Program) (e : Env) (s : State) (m : MethodId) (args : Array Value) (below : List Frame) (meth : Method) (c : Code), p.tables.exec = Jvm.exec → c.code = cc → meth.sig.returnType = ret → c.maxLocals = n → s.vm.findClass y.cls = some m.cls → (∀ w ∈ TT, w.before args s = true) → meth.locks = false → KK D cI cJ s → va_P D vwCl ws s.heap → va_D (inW ws) ws → va_S (inW ws) s.heap s.heap [] → ∀ ls : Array Slot, lv_has ls n (lv_args 0 As) →
      W p l e (RM f lo) s m args below meth c s.heap [] 0 0 (MQ below (QW D ws Φ) args s 0 0 (inW ws)) (F0 m 0 ls [])) : WR D cI cJ l y cc n ret f lo As ws Φ := by
  refine Met.ofW (cc := cc) (maxL := n) (ret := ret) hy rfl ?_
  intro p e s m args below meth c s₁ B hml hv
  obtain ⟨rfl, hK, hP, hD⟩ := hv
  have hts := atoms_spec (ws := Cond.code y cc n ret :: TT) B.pre
  have hown : s.vm.findClass y.cls = some m.cls := findClass_of_methodNamed B.named
  rw [lg_entry_eq]
  exact body p e s m _ below meth c B.exec B.bytes B.returns hml hown (fun w h => hts w (List.mem_cons_of_mem _ h)) B.notSynchronized hK hP hD.inW va_S.rf _ (lv_entry As hn)
theorem WV.of {D : va_G} {cI cJ : ClassId} {l : Launch} {y : MethodName} {cc : ByteArray} {n : Nat} {f lo : Nat} {As : List Value} {ws : va_W} {Φ : va_W → Prop} (hy : plainName y.cls = true) (hn : (lg_sl As).length ≤ n)
    (body : ∀ (p : Program) (e : Env) (s : State) (m : MethodId) (args : Array Value) (below : List Frame) (meth : Method) (c : Code), p.tables.exec = Jvm.exec → c.code = cc → meth.sig.returnType = none → c.maxLocals = n → s.vm.findClass y.cls = some m.cls → (∀ w ∈ TT, w.before args s = true) → meth.locks = false → KK D cI cJ s → va_P D vwCl ws s.heap → va_D (inW ws) ws → va_S (inW ws) s.heap s.heap [] → ∀ ls : Array Slot, lv_has ls n (lv_args 0 As) →
      W p l e (RM f lo) s m args below meth c s.heap [] 0 0 (MQ below (QV D ws Φ) args s 0 0 (inW ws)) (F0 m 0 ls [])) : WV D cI cJ l y cc n f lo As ws Φ := by
  refine Met.ofW (cc := cc) (maxL := n) (ret := none) hy rfl ?_
  intro p e s m args below meth c s₁ B hml hv
  obtain ⟨rfl, hK, hP, hD⟩ := hv
  have hts := atoms_spec (ws := Cond.code y cc n none :: TT) B.pre
  have hown : s.vm.findClass y.cls = some m.cls := findClass_of_methodNamed B.named
  rw [lg_entry_eq]
  exact body p e s m _ below meth c B.exec B.bytes B.returns hml hown (fun w h => hts w (List.mem_cons_of_mem _ h)) B.notSynchronized hK hP hD.inW va_S.rf _ (lv_entry As hn)
section ZCALL
variable {p : Program} {l : Launch} {e : Env} {R : Room} {s : State} {m : MethodId} {args : Array Value} {below : List Frame} {meth : Method} {c : Code} {H : Heap} {locs : List Loc} {cells slots : Nat} {Q : State → Prop}
variable {cc : ByteArray} {pc : Nat} {ls : Array Slot} {rest : List Value} {D : va_G} {cI cJ : ClassId}
-- ends
theorem rd_iret (hx : p.tables.exec = Jvm.exec) (hb : c.code = cc) (hr : meth.sig.returnType = some .int) (hlk : meth.locks = false) {x : Int32} {v : Value} (hd : decode cc pc = .ok (.ireturn, 1)) (hv : v = .int x) : W p l e R s m args below meth c H [] 0 0 (MQ below (QR v H) args s 0 0 (fun _ => False)) (F0 m pc ls [.int x]) :=
  W.iret hx hb hr (fun t ht _ => ⟨by rw [hv], ht⟩) (fun q h => by cases h) hd hlk
theorem rd_zret (hx : p.tables.exec = Jvm.exec) (hb : c.code = cc) (hr : meth.sig.returnType = some .boolean) (hlk : meth.locks = false) {φ : Prop} [Decidable φ] {x : Int32} (hd : decode cc pc = .ok (.ireturn, 1)) (hv : x = bI φ) : W p l e R s m args below meth c H [] 0 0 (MQ below (QR (.int (bI φ)) H) args s 0 0 (fun _ => False)) (F0 m pc ls [.int x]) :=
  W.zret hx hb hr (by rw [hv]; exact bI_n) (fun t ht _ => ⟨by rw [hv], ht⟩) (fun q h => by cases h) hd hlk
theorem rd_lret (hx : p.tables.exec = Jvm.exec) (hb : c.code = cc) (hr : meth.sig.returnType = some .long) (hlk : meth.locks = false) {x : Int64} {v : Value} (hd : decode cc pc = .ok (.lreturn, 1)) (hv : v = .long x) : W p l e R s m args below meth c H [] 0 0 (MQ below (QR v H) args s 0 0 (fun _ => False)) (F0 m pc ls [.long x]) :=
  W.lret hx hb hr (fun t ht _ => ⟨by rw [hv], ht⟩) (fun q h => by cases h) hd hlk
theorem wr_iret (hx : p.tables.exec = Jvm.exec) (hb : c.code = cc) (hr : meth.sig.returnType = some .int) (hlk : meth.locks = false) {x : Int32} {ws ws' : va_W} {Φ : Value → va_W → Prop} (hd : decode cc pc = .ok (.ireturn, 1)) (hP : va_P D vwCl ws' H) (hS : va_S (inW ws) s.heap H locs) (hv : Φ (.int x) ws') : W p l e R s m args below meth c H locs cells slots (MQ below (QW D ws Φ) args s cells slots (inW ws)) (F0 m pc ls [.int x]) :=
  W.iret hx hb hr (fun t ht _ => ⟨⟨_, ws', rfl, hv, by rw [ht]; exact hP⟩, hS.F ht⟩) hS.2.2 hd hlk
theorem wr_zret (hx : p.tables.exec = Jvm.exec) (hb : c.code = cc) (hr : meth.sig.returnType = some .boolean) (hlk : meth.locks = false) {φ : Prop} [Decidable φ] {x : Int32} {ws ws' : va_W} {Φ : Value → va_W → Prop} (hd : decode cc pc = .ok (.ireturn, 1)) (hx2 : x = bI φ) (hP : va_P D vwCl ws' H) (hS : va_S (inW ws) s.heap H locs) (hv : Φ (.int (bI φ)) ws') : W p l e R s m args below meth c H locs cells slots (MQ below (QW D ws Φ) args s cells slots (inW ws)) (F0 m pc ls [.int x]) := by
  subst hx2
  exact W.zret hx hb hr bI_n (fun t ht _ => ⟨⟨_, ws', rfl, hv, by rw [ht]; exact hP⟩, hS.F ht⟩) hS.2.2 hd hlk
theorem wr_lret (hx : p.tables.exec = Jvm.exec) (hb : c.code = cc) (hr : meth.sig.returnType = some .long) (hlk : meth.locks = false) {x : Int64} {ws ws' : va_W} {Φ : Value → va_W → Prop} (hd : decode cc pc = .ok (.lreturn, 1)) (hP : va_P D vwCl ws' H) (hS : va_S (inW ws) s.heap H locs) (hv : Φ (.long x) ws') : W p l e R s m args below meth c H locs cells slots (MQ below (QW D ws Φ) args s cells slots (inW ws)) (F0 m pc ls [.long x]) :=
  W.lret hx hb hr (fun t ht _ => ⟨⟨_, ws', rfl, hv, by rw [ht]; exact hP⟩, hS.F ht⟩) hS.2.2 hd hlk
theorem wv_ret (hx : p.tables.exec = Jvm.exec) (hb : c.code = cc) (hr : meth.sig.returnType = none) (hlk : meth.locks = false) {ws ws' : va_W} {Φ : va_W → Prop} (hd : decode cc pc = .ok (.return_, 1)) (hP : va_P D vwCl ws' H) (hS : va_S (inW ws) s.heap H locs) (hv : Φ ws') : W p l e R s m args below meth c H locs cells slots (MQ below (QV D ws Φ) args s cells slots (inW ws)) (F0 m pc ls []) :=
  W.vret hx hb hr (fun t ht _ => ⟨⟨ws', rfl, hv, by rw [ht]; exact hP⟩, hS.F ht⟩) hS.2.2 hd hlk
-- what is known of a callee
def CalS (y : MethodName) (cc : ByteArray) (maxL : Nat) (ret : Option FieldType) (n : Nat) : Prop := Cond.code y cc maxL ret ∈ TT ∧ Cond.static y ∈ TT ∧ Cond.initialized y.cls ∈ TT ∧ (y.cls ≠ "java/lang/invoke/MethodHandle" ∧ y.cls ≠ "java/lang/invoke/VarHandle" ∧ (parseMethodDescriptor y.desc).map (fun d => d.parameters.length) = some n)
def CalV (y : MethodName) (cc : ByteArray) (maxL : Nat) (ret : Option FieldType) (n : Nat) : Prop := Cond.code y cc maxL ret ∈ TT ∧ Cond.instanceMethod y ∈ TT ∧ Cond.selects y.cls y y ∈ TT ∧ Cond.initialized y.cls ∈ TT ∧ (y.cls ≠ "java/lang/invoke/MethodHandle" ∧ y.cls ≠ "java/lang/invoke/VarHandle" ∧ (parseMethodDescriptor y.desc).map (fun d => d.parameters.length) = some n)
theorem TT_wd {y : MethodName} {cc : ByteArray} {maxL : Nat} {ret : Option FieldType} (h : Cond.code y cc maxL ret ∈ TT) : GoodIn TT (Cond.code y cc maxL ret :: TT) := fun w hw => (List.mem_cons.mp hw).elim (fun e => by rw [e]; exact TT_good _ h) (fun h => TT_good _ h)
theorem rd_run {v : Value} {mc : Nat} (hmc : mc = 0) {Hh : Heap} {a : Array Value} {g : JFrame} {st : List Value} (hr : va_Run p l e R s m args below meth c H locs cells slots mc mc (F0 m pc ls st) rest (QR v H a) (fun _ => False))
    (kk : W p l e R s m args below meth c H locs cells slots Q (F0 m (pc + 3) ls (v :: rest))) : W p l e R s m args below meth c H locs cells slots Q (F0 m pc ls st) := by
  subst hmc
  intro T hT X
  obtain ⟨v1, st₀, t, T', L, h0, X', hL, e1, e2, ⟨hv, hh⟩, stp⟩ := hr T hT X
  cases hv
  have hL0 : L = [] := List.eq_nil_iff_forall_not_mem.mpr (fun q hq => hL q hq)
  subst hL0
  rw [List.append_nil] at X'
  obtain ⟨t2, a1, b1⟩ := kk T' (e1.trans hh) X'
  exact ⟨t2, stp t2 a1, b1⟩
theorem rd_S (hx : p.tables.exec = Jvm.exec) (hb : c.code = cc) {nL : Nat} (hml : c.maxLocals = nL) {own : String} (hown : s.vm.findClass own = some m.cls) (hT : ∀ w ∈ TT, w.before args s = true) (hK : KK D cI cJ s) {y : MethodName} {bytes : ByteArray} {maxL n f lo idx : Nat} {ret : Option FieldType} {As st : List Value} {ws : va_W} {v : Value}
    (hM : RD D cI cJ l y bytes maxL ret f lo As ws v) (hc : CalS y bytes maxL ret n) (hl : Cond.methodLink own idx y ∈ TT) (hP : va_P D vwCl ws H) (hR : f + 1 ≤ R.frames ∧ 8 + (maxL + 11) + lo ≤ R.locals) (hn : As.length = n) (hsz : ls.size = nL) (hst : st = As.reverse ++ rest) (hcat : (rest.map fun v => v.category).sum ≤ 8) (hf : cells + 0 ≤ R.cells ∧ slots + 0 ≤ R.slots) (hd : decode cc pc = .ok (.invokestatic idx, 3))
    (kk : W p l e R s m args below meth c H locs cells slots Q (F0 m (pc + 3) ls (v :: rest))) : W p l e R s m args below meth c H locs cells slots Q (F0 m pc ls st) := by
  refine rd_run (Hh := H) (g := F0 m pc ls st) rfl (va_runS (As := As) (rest := rest) (Ts := TT) ⟨hx, hb, hml, hown, hT⟩ (hM H) ⟨callB_of n hT (TT_wd hc.1) rfl rfl rfl (hT _ hc.2.2.1) (hT _ hl) hc.2.2.2 hR, hT _ hc.2.1⟩ ⟨fun a U g mk q => ⟨q.1, q.2.1, q.2.2.1.call, q.2.2.2⟩, fun U hU hW => ⟨rfl, hU, hK.warm hW, hP⟩⟩ rfl hn hsz hst (lv_room hcat) hd hf) kk
theorem rd_V (hx : p.tables.exec = Jvm.exec) (hb : c.code = cc) {nL : Nat} (hml : c.maxLocals = nL) {own : String} (hown : s.vm.findClass own = some m.cls) (hT : ∀ w ∈ TT, w.before args s = true) (hK : KK D cI cJ s) {y : MethodName} {bytes : ByteArray} {maxL n f lo idx b : Nat} {ret : Option FieldType} {As st : List Value} {ws : va_W} {v : Value}
    (hM : RD D cI cJ l y bytes maxL ret f lo (.ref b :: As) ws v) (hc : CalV y bytes maxL ret n) (hl : Cond.methodLink own idx y ∈ TT) (hP : va_P D vwCl ws H) (q0 ci : Nat) {q : vw_C} {fs : List Value} (hcl : vwCl[ci]? = some q) (hq : q.1 = y.cls) (he : ws[q0]? = some (b, .inr (ci, fs))) (hR : f + 1 ≤ R.frames ∧ 8 + (maxL + 11) + lo ≤ R.locals) (hn : As.length = n) (hsz : ls.size = nL) (hst : st = As.reverse ++ .ref b :: rest) (hcat : (rest.map fun v => v.category).sum ≤ 8) (hf : cells + 0 ≤ R.cells ∧ slots + 0 ≤ R.slots) (hd : decode cc pc = .ok (.invokevirtual idx, 3))
    (kk : W p l e R s m args below meth c H locs cells slots Q (F0 m (pc + 3) ls (v :: rest))) : W p l e R s m args below meth c H locs cells slots Q (F0 m pc ls st) := by
  refine rd_run (Hh := H) (g := F0 m pc ls st) rfl (va_runV (As := As) (rest := rest) (Ts := TT) (C := y.cls) ⟨hx, hb, hml, hown, hT⟩ (hM H) ⟨callB_of n hT (TT_wd hc.1) rfl rfl rfl (hT _ hc.2.2.2.1) (hT _ hl) hc.2.2.2.2 hR, hT _ hc.2.1, hT _ hc.2.2.1⟩ ⟨fun a U g mk q => ⟨q.1, q.2.1, q.2.2.1.call, q.2.2.2⟩, by rw [← hq]; exact va_recv hK.1 hP hcl he, fun U hU hW => ⟨rfl, hU, hK.warm hW, hP⟩⟩ rfl hn hsz hst (lv_room hcat) hd hf) kk
theorem rd_SN (hx : p.tables.exec = Jvm.exec) (hb : c.code = cc) {nL : Nat} (hml : c.maxLocals = nL) {own host : String} (hown : s.vm.findClass own = some m.cls) (hT : ∀ w ∈ TT, w.before args s = true) (hK : KK D cI cJ s) {y : MethodName} {bytes : ByteArray} {maxL n f lo idx : Nat} {ret : Option FieldType} {As st : List Value} {ws : va_W} {v : Value}
    (hM : RD D cI cJ l y bytes maxL ret f lo As ws v) (hc : CalS y bytes maxL ret n) (hl : va_Nw (.methodLinkNest own idx y host) s) (hP : va_P D vwCl ws H) (hR : f + 1 ≤ R.frames ∧ 8 + (maxL + 11) + lo ≤ R.locals) (hn : As.length = n) (hsz : ls.size = nL) (hst : st = As.reverse ++ rest) (hcat : (rest.map fun v => v.category).sum ≤ 8) (hf : cells + 0 ≤ R.cells ∧ slots + 0 ≤ R.slots) (hd : decode cc pc = .ok (.invokestatic idx, 3))
    (kk : W p l e R s m args below meth c H locs cells slots Q (F0 m (pc + 3) ls (v :: rest))) : W p l e R s m args below meth c H locs cells slots Q (F0 m pc ls st) := by
  refine rd_run (Hh := H) (g := F0 m pc ls st) rfl (va_runSN (As := As) (rest := rest) (Ts := TT) ⟨hx, hb, hml, hown, hT⟩ (hM H) ⟨va_cnB n hT (TT_wd hc.1) rfl rfl rfl hl (hT _ hc.2.2.1) hc.2.2.2 hR, hT _ hc.2.1, trivial⟩ ⟨fun a U g mk q => ⟨q.1, q.2.1, q.2.2.1.call, q.2.2.2⟩, fun U hU hW => ⟨rfl, hU, hK.warm hW, hP⟩⟩ rfl hn hsz hst (lv_room hcat) hd hf) kk
variable {A0 : Nat → Prop} {H0 : Heap}
theorem wr_V (hx : p.tables.exec = Jvm.exec) (hb : c.code = cc) {nL : Nat} (hml : c.maxLocals = nL) {own : String} (hown : s.vm.findClass own = some m.cls) (hT : ∀ w ∈ TT, w.before args s = true) (hK : KK D cI cJ s) {y : MethodName} {bytes : ByteArray} {maxL n f lo idx b : Nat} {ret : Option FieldType} {As st : List Value} {ws : va_W} {Φ : Value → va_W → Prop}
    (hM : WR D cI cJ l y bytes maxL ret f lo (.ref b :: As) ws Φ) (hc : CalV y bytes maxL ret n) (hl : Cond.methodLink own idx y ∈ TT) (hP : va_P D vwCl ws H) {A : Nat → Prop} (hD : va_D A ws) (hS : va_S A0 H0 H locs) (hA : ∀ q, inW ws q → A0 q) (q0 ci : Nat) {q : vw_C} {fs : List Value} (hcl : vwCl[ci]? = some q) (hq : q.1 = y.cls) (he : ws[q0]? = some (b, .inr (ci, fs))) (hR : f + 1 ≤ R.frames ∧ 8 + (maxL + 11) + lo ≤ R.locals) (hn : As.length = n) (hsz : ls.size = nL) (hst : st = As.reverse ++ .ref b :: rest) (hcat : (rest.map fun v => v.category).sum ≤ 8) (hf : cells + 0 ≤ R.cells ∧ slots + 0 ≤ R.slots) (hd : decode cc pc = .ok (.invokevirtual idx, 3))
    (kk : ∀ (v : Value) (ws' : va_W) (H1 : Heap) (locs1 : List Loc), Φ v ws' → va_P D vwCl ws' H1 → H.size ≤ H1.size → (∀ q : Nat, q < H.size → ¬ inW ws q → H1[q]? = H[q]?) → va_S A0 H0 H1 locs1 → W p l e R s m args below meth c H1 locs1 cells slots Q (F0 m (pc + 3) ls (v :: rest))) : W p l e R s m args below meth c H locs cells slots Q (F0 m pc ls st) := by
  have hr := va_runV (p := p) (l := l) (e := e) (R := R) (below := below) (meth := meth) (H := H) (locs := locs) (cells := cells) (slots := slots) (g := F0 m pc ls st) (As := As) (rest := rest) (Ts := TT) (C := y.cls) ⟨hx, hb, hml, hown, hT⟩ hM ⟨callB_of n hT (TT_wd hc.1) rfl rfl rfl (hT _ hc.2.2.2.1) (hT _ hl) hc.2.2.2.2 hR, hT _ hc.2.1, hT _ hc.2.2.1⟩ ⟨fun a U g mk q => ⟨q.1, q.2.1.call, q.2.2.1, q.2.2.2⟩, by rw [← hq]; exact va_recv hK.1 hP hcl he, fun U hU hW => ⟨rfl, hK.warm hW, by rw [hU]; exact hP, hD.weaken (fun _ _ _ _ => trivial)⟩⟩ rfl hn hsz hst (lv_room hcat) hd hf
  intro T hT2 X
  obtain ⟨v1, st₀, t, T', L, h0, X', hL, e1, e2, ⟨⟨v, ws', hv, hφ, hPn⟩, hz, hk⟩, stp⟩ := hr T hT2 X
  cases hv
  rw [h0] at hz hk
  obtain ⟨t2, a1, b1⟩ := kk v ws' T'.heap (locs ++ L) hφ (by rw [e1]; exact hPn) (by rw [e1]; exact hz) (fun q h1 h2 => by rw [e1]; exact hk q h1 h2)
    ⟨Nat.le_trans hS.1 (by rw [e1]; exact hz), fun q h1 h2 => by rw [e1, hk q (Nat.lt_of_lt_of_le h1 hS.1) (fun z => h2 (hA q z))]; exact hS.2.1 q h1 h2, fun q hq => by
      rcases List.mem_append.mp hq with h | h
      · exact hS.2.2 q h
      · exact hA _ (hL q h)⟩ T' rfl X'
  exact ⟨t2, stp t2 a1, b1⟩
theorem wv_V (hx : p.tables.exec = Jvm.exec) (hb : c.code = cc) {nL : Nat} (hml : c.maxLocals = nL) {own : String} (hown : s.vm.findClass own = some m.cls) (hT : ∀ w ∈ TT, w.before args s = true) (hK : KK D cI cJ s) {y : MethodName} {bytes : ByteArray} {maxL n f lo idx b : Nat} {As st : List Value} {ws : va_W} {Φ : va_W → Prop}
    (hM : WV D cI cJ l y bytes maxL f lo (.ref b :: As) ws Φ) (hc : CalV y bytes maxL none n) (hl : Cond.methodLink own idx y ∈ TT) (hP : va_P D vwCl ws H) {A : Nat → Prop} (hD : va_D A ws) (hS : va_S A0 H0 H locs) (hA : ∀ q, inW ws q → A0 q) (q0 ci : Nat) {q : vw_C} {fs : List Value} (hcl : vwCl[ci]? = some q) (hq : q.1 = y.cls) (he : ws[q0]? = some (b, .inr (ci, fs))) (hR : f + 1 ≤ R.frames ∧ 8 + (maxL + 11) + lo ≤ R.locals) (hn : As.length = n) (hsz : ls.size = nL) (hst : st = As.reverse ++ .ref b :: rest) (hcat : (rest.map fun v => v.category).sum ≤ 8) (hf : cells + 0 ≤ R.cells ∧ slots + 0 ≤ R.slots) (hd : decode cc pc = .ok (.invokevirtual idx, 3))
    (kk : ∀ (ws' : va_W) (H1 : Heap) (locs1 : List Loc), Φ ws' → va_P D vwCl ws' H1 → H.size ≤ H1.size → (∀ q : Nat, q < H.size → ¬ inW ws q → H1[q]? = H[q]?) → va_S A0 H0 H1 locs1 → W p l e R s m args below meth c H1 locs1 cells slots Q (F0 m (pc + 3) ls rest)) : W p l e R s m args below meth c H locs cells slots Q (F0 m pc ls st) := by
  have hr := va_runV (p := p) (l := l) (e := e) (R := R) (below := below) (meth := meth) (H := H) (locs := locs) (cells := cells) (slots := slots) (g := F0 m pc ls st) (As := As) (rest := rest) (Ts := TT) (C := y.cls) ⟨hx, hb, hml, hown, hT⟩ hM ⟨callB_of n hT (TT_wd hc.1) rfl rfl rfl (hT _ hc.2.2.2.1) (hT _ hl) hc.2.2.2.2 hR, hT _ hc.2.1, hT _ hc.2.2.1⟩ ⟨fun a U g mk q => ⟨q.1, q.2.1.call, q.2.2.1, q.2.2.2⟩, by rw [← hq]; exact va_recv hK.1 hP hcl he, fun U hU hW => ⟨rfl, hK.warm hW, by rw [hU]; exact hP, hD.weaken (fun _ _ _ _ => trivial)⟩⟩ rfl hn hsz hst (lv_room hcat) hd hf
  intro T hT2 X
  obtain ⟨v1, st₀, t, T', L, h0, X', hL, e1, e2, ⟨⟨ws', hv, hφ, hPn⟩, hz, hk⟩, stp⟩ := hr T hT2 X
  cases hv
  rw [h0] at hz hk
  obtain ⟨t2, a1, b1⟩ := kk ws' T'.heap (locs ++ L) hφ (by rw [e1]; exact hPn) (by rw [e1]; exact hz) (fun q h1 h2 => by rw [e1]; exact hk q h1 h2)
    ⟨Nat.le_trans hS.1 (by rw [e1]; exact hz), fun q h1 h2 => by rw [e1, hk q (Nat.lt_of_lt_of_le h1 hS.1) (fun z => h2 (hA q z))]; exact hS.2.1 q h1 h2, fun q hq => by
      rcases List.mem_append.mp hq with h | h
      · exact hS.2.2 q h
      · exact hA _ (hL q h)⟩ T' rfl X'
  exact ⟨t2, stp t2 a1, b1⟩
-- arrays and fields in zi, zj
variable {tys : List (ClassId × FieldType)} {ws : va_W} {A : Nat → Prop} {a : Nat}
theorem z_iald (hx : p.tables.exec = Jvm.exec) (hb : c.code = cc) (hK : KK D cI cJ s) (hP : va_P D vwCl ws H) (q0 k : Nat) {n : Nat} {f : Nat → Int} (ha : ws[q0]? = some (a, .inl (cI, n, .inl (fun j => zi (f j))))) {z : Int} (hz : z = (k : Int)) (hk : k < n) (hn : n ≤ 2147483647) (hd : decode cc pc = .ok (.iaload, 1))
    (kk : W p l e R s m args below meth c H locs cells slots Q (F0 m (pc + 1) ls (.int (zi (f k)) :: rest))) : W p l e R s m args below meth c H locs cells slots Q (F0 m pc ls (.int (zi z) :: .ref a :: rest)) := by
  refine va_iald hx hb hK.1 hP q0 0 ha rfl (zi_in hz hk hn) hd ?_
  rw [hz, zi_clamp k (by omega)]
  exact kk
theorem z_lald (hx : p.tables.exec = Jvm.exec) (hb : c.code = cc) (hK : KK D cI cJ s) (hP : va_P D vwCl ws H) (q0 k : Nat) {n : Nat} {f : Nat → Int} (ha : ws[q0]? = some (a, .inl (cJ, n, .inr (.inl (fun j => zj (f j)))))) {z : Int} (hz : z = (k : Int)) (hk : k < n) (hn : n ≤ 2147483647) (hd : decode cc pc = .ok (.laload, 1))
    (kk : W p l e R s m args below meth c H locs cells slots Q (F0 m (pc + 1) ls (.long (zj (f k)) :: rest))) : W p l e R s m args below meth c H locs cells slots Q (F0 m pc ls (.int (zi z) :: .ref a :: rest)) := by
  refine va_lald hx hb hK.1 hP q0 1 ha rfl (zi_in hz hk hn) hd ?_
  rw [hz, zi_clamp k (by omega)]
  exact kk
theorem z_iast (hx : p.tables.exec = Jvm.exec) (hb : c.code = cc) (hK : KK D cI cJ s) (hP : va_P D vwCl ws H) (hD : va_D A ws) (hS : va_S A H0 H locs) (q0 k : Nat) {n : Nat} {f : Nat → Int} (ha : ws[q0]? = some (a, .inl (cI, n, .inl (fun j => zi (f j))))) {z x : Int} (hz : z = (k : Int)) (hk : k < n) (hn : n ≤ 2147483647) (hd : decode cc pc = .ok (.iastore, 1))
    (kk : ∀ (H1 : Heap) (locs1 : List Loc), va_P D vwCl (ws.set q0 (a, .inl (cI, n, .inl (fun j => zi (uZ f k x j))))) H1 → va_D A (ws.set q0 (a, .inl (cI, n, .inl (fun j => zi (uZ f k x j))))) → va_S A H0 H1 locs1 → W p l e R s m args below meth c H1 locs1 cells slots Q (F0 m (pc + 1) ls rest)) : W p l e R s m args below meth c H locs cells slots Q (F0 m pc ls (.int (zi x) :: .int (zi z) :: .ref a :: rest)) := by
  refine va_iast hx hb hK.1 hP hD hS q0 0 ha rfl (zi_in hz hk hn) hd ?_
  rw [hz, zi_clamp k (by omega), uZ_i]
  exact kk
theorem z_last (hx : p.tables.exec = Jvm.exec) (hb : c.code = cc) (hK : KK D cI cJ s) (hP : va_P D vwCl ws H) (hD : va_D A ws) (hS : va_S A H0 H locs) (q0 k : Nat) {n : Nat} {f : Nat → Int} (ha : ws[q0]? = some (a, .inl (cJ, n, .inr (.inl (fun j => zj (f j)))))) {z x : Int} (hz : z = (k : Int)) (hk : k < n) (hn : n ≤ 2147483647) (hd : decode cc pc = .ok (.lastore, 1))
    (kk : ∀ (H1 : Heap) (locs1 : List Loc), va_P D vwCl (ws.set q0 (a, .inl (cJ, n, .inr (.inl (fun j => zj (uZ f k x j)))))) H1 → va_D A (ws.set q0 (a, .inl (cJ, n, .inr (.inl (fun j => zj (uZ f k x j)))))) → va_S A H0 H1 locs1 → W p l e R s m args below meth c H1 locs1 cells slots Q (F0 m (pc + 1) ls rest)) : W p l e R s m args below meth c H locs cells slots Q (F0 m pc ls (.long (zj x) :: .int (zi z) :: .ref a :: rest)) := by
  refine va_last hx hb hK.1 hP hD hS q0 1 ha rfl (zi_in hz hk hn) hd ?_
  rw [hz, zi_clamp k (by omega), uZ_j]
  exact kk
theorem z_alen (hx : p.tables.exec = Jvm.exec) (hb : c.code = cc) (hK : KK D cI cJ s) (hP : va_P D vwCl ws H) (q0 : Nat) {n : Nat} {f : Nat → Int32} (ha : ws[q0]? = some (a, .inl (cI, n, .inl f))) (hd : decode cc pc = .ok (.arraylength, 1))
    (kk : W p l e R s m args below meth c H locs cells slots Q (F0 m (pc + 1) ls (.int (zi (n : Int)) :: rest))) : W p l e R s m args below meth c H locs cells slots Q (F0 m pc ls (.ref a :: rest)) :=
  va_alen hx hb hK.1 hP q0 0 ha (ty := .int) rfl (zi_nI n).symm hd kk
end ZCALL
