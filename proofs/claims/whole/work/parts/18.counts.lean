/-! how great the lower numbers can be -/
def dfac : Nat → Nat
  | 0 => 1
  | 1 => 1
  | n + 2 => (n + 2) * dfac n
theorem dfac_tab : ∀ a : Fin 14, ∀ b : Fin 14, a.val ≤ b.val → dfac a.val ≤ dfac b.val := by decide +kernel
theorem dfac_tab2 : ∀ r : Fin 14, ∀ x : Fin 14, x.val < r.val → r.val * dfac (x.val - 1) ≤ dfac r.val := by decide +kernel
theorem dfac_tab3 : ∀ a : Fin 14, 1 ≤ dfac a.val := by decide +kernel
theorem dfac_mono {a b : Nat} (h : a ≤ b) (hb : b ≤ 13) : dfac a ≤ dfac b := dfac_tab ⟨a, by omega⟩ ⟨b, by omega⟩ h
theorem dfac_step {r x : Nat} (h : x < r) (hr : r ≤ 13) : r * dfac (x - 1) ≤ dfac r := dfac_tab2 ⟨r, by omega⟩ ⟨x, by omega⟩ h
theorem ds_ex {F R : Nat → Nat} (hs : STd F R) (B : Nat) : ∀ k, B + k ≤ 500 → ∃ A Ds c X : Nat, 0 < Ds ∧ c ≤ 13 ∧ R (B + k + 1) ≤ c ∧ Ds * dfac (c - 1) ≤ 599040 ∧ lev F R (B + k) * Ds = lev F R B * (A * c) ∧ sumL (lev F R) B (k + 1) * Ds = lev F R B * X
  | 0, _ => by
    refine ⟨1, 13, 13, 13, by omega, by omega, ?_, by decide, ?_, ?_⟩
    · have := hs.2.2.1 (B + 0 + 1); omega
    · simp
    · simp [sumL]
  | k + 1, hk => by
    obtain ⟨A, Ds, c, X, h1, h2, h3, h4, h5, h6⟩ := ds_ex hs B k (by omega)
    have hst := lev_step (F := F) (R := R) (t := B + k) (by omega)
    have hr1 := hs.2.1 (B + k + 1)
    have es : sumL (lev F R) B (k + 1 + 1) = sumL (lev F R) B (k + 1) + lev F R (B + k + 1) := rfl
    rw [es, show B + (k + 1) = B + k + 1 by omega]
    generalize lev F R B = LB at *
    generalize lev F R (B + k) = L0 at *
    generalize lev F R (B + k + 1) = L1 at *
    generalize sumL (lev F R) B (k + 1) = SM at *
    by_cases hF : F (B + k + 1) = 0
    · have e1 : dF F R (B + k + 1) = 1 := by unfold dF; rw [if_pos hF]
      have e2 : uF F R (B + k + 1) = 1 := by unfold uF; rw [if_pos hF]
      rw [e1, e2, Nat.mul_one, Nat.mul_one] at hst
      subst hst
      exact ⟨A, Ds, c, X + A * c, h1, h2, by omega, h4, h5, by rw [Nat.add_mul, h6, h5, Nat.mul_add]⟩
    · have e1 : dF F R (B + k + 1) = R (B + k + 1) := by unfold dF; rw [if_neg hF]
      have e2 : uF F R (B + k + 1) = R (B + k + 1) - F (B + k + 1) := by unfold uF; rw [if_neg hF]
      rw [e1, e2] at hst
      generalize hx : R (B + k + 1) - F (B + k + 1) = x at *
      generalize hr : R (B + k + 1) = r at *
      have hxr : x < r := by omega
      have hr13 : r ≤ 12 := by have := hs.2.2.1 (B + k + 1); omega
      by_cases hc : r = c
      · subst hc
        have e3 : L1 * Ds = LB * (A * x) := by
          have e4 : (L1 * Ds) * r = (LB * (A * x)) * r := by
            have a1 : (L1 * Ds) * r = (L1 * r) * Ds := by rw [Nat.mul_assoc, Nat.mul_comm Ds r, Nat.mul_assoc]
            have a2 : (LB * (A * x)) * r = (LB * (A * r)) * x := by rw [Nat.mul_assoc, Nat.mul_assoc, Nat.mul_comm x r, ← Nat.mul_assoc, ← Nat.mul_assoc, ← Nat.mul_assoc]
            rw [a1, a2, hst, ← h5, Nat.mul_assoc, Nat.mul_comm x Ds, ← Nat.mul_assoc]
          exact Nat.eq_of_mul_eq_mul_right (by omega) e4
        refine ⟨A, Ds, x, X + A * x, h1, by omega, by omega, ?_, e3, by rw [Nat.add_mul, h6, e3, Nat.mul_add]⟩
        exact Nat.le_trans (Nat.mul_le_mul_left _ (dfac_mono (show x - 1 ≤ r - 1 by omega) (by omega))) h4
      · have e3 : L1 * (Ds * r) = LB * (A * c * x) := by
          have a1 : L1 * (Ds * r) = (L1 * r) * Ds := by rw [Nat.mul_comm Ds r, ← Nat.mul_assoc]
          have a2 : LB * (A * c * x) = (LB * (A * c)) * x := by rw [← Nat.mul_assoc]
          rw [a1, a2, hst, ← h5, Nat.mul_assoc, Nat.mul_comm x Ds, ← Nat.mul_assoc]
        refine ⟨A * c, Ds * r, x, X * r + A * c * x, Nat.mul_pos h1 (by omega), by omega, by omega, ?_, e3, ?_⟩
        · have b1 : Ds * r * dfac (x - 1) ≤ Ds * dfac r := by rw [Nat.mul_assoc]; exact Nat.mul_le_mul_left _ (dfac_step hxr (by omega))
          have b2 : Ds * dfac r ≤ Ds * dfac (c - 1) := Nat.mul_le_mul_left _ (dfac_mono (by omega) (by omega))
          omega
        · rw [Nat.add_mul, e3, ← Nat.mul_assoc, h6, Nat.mul_add, Nat.mul_assoc]
theorem ds_le {Ds c : Nat} (hc : c ≤ 13) (h : Ds * dfac (c - 1) ≤ 599040) : Ds ≤ 599040 := by
  have h1 : 1 ≤ dfac (c - 1) := dfac_tab3 ⟨c - 1, by omega⟩
  have h2 : Ds * 1 ≤ Ds * dfac (c - 1) := Nat.mul_le_mul_left _ h1
  omega
theorem low_left {F R : Nat → Nat} (hs : STd F R) {B t : Nat} (hBt : B ≤ t) (ht : t ≤ 500) (hB : 0 < lev F R B) : rdL (lev F R t) (lev F R B) ≤ 599040 := by
  obtain ⟨k, rfl⟩ := Nat.exists_eq_add_of_le hBt
  obtain ⟨A, Ds, c, X, h1, h2, h3, h4, h5, h6⟩ := ds_ex hs B k ht
  exact Nat.le_trans (Nat.le_of_dvd h1 (rd_dvd hB (by rw [h5, Nat.mul_comm]))) (ds_le h2 h4)
theorem low_sum {F R : Nat → Nat} (hs : STd F R) {B k : Nat} (hk : B + k ≤ 501) (hB : 0 < lev F R B) : rdL (sumL (lev F R) B k) (lev F R B) ≤ 599040 := by
  match k, hk with
  | 0, _ =>
    have e : rdL (sumL (lev F R) B 0) (lev F R B) = 1 := by
      show lev F R B / Nat.gcd 0 (lev F R B) = 1
      rw [Nat.gcd_zero_left, Nat.div_self hB]
    omega
  | k + 1, hk =>
    obtain ⟨A, Ds, c, X, h1, h2, h3, h4, h5, h6⟩ := ds_ex hs B k (by omega)
    exact Nat.le_trans (Nat.le_of_dvd h1 (rd_dvd hB (by rw [h6, Nat.mul_comm]))) (ds_le h2 h4)
/-! the counts of the machine are such numbers -/
theorem cRk_rng {st hr : Nat → Int} {S t : Int} : ∀ u : Nat, 0 ≤ cRk st hr S t u ∧ cRk st hr S t u ≤ (u : Int)
  | 0 => by simp [cRk]
  | u + 1 => by
    have ih := cRk_rng (st := st) (hr := hr) (S := S) (t := t) u
    simp only [cRk]; split <;> omega
theorem cFl_rng {st hr ca : Nat → Int} {S b t : Int} : ∀ u : Nat, 0 ≤ cFl st hr ca S b t u ∧ cFl st hr ca S b t u ≤ (u : Int)
  | 0 => by simp [cFl]
  | u + 1 => by
    have ih := cFl_rng (st := st) (hr := hr) (ca := ca) (S := S) (b := b) (t := t) u
    simp only [cFl]; split <;> omega
theorem cRk_step {st hr ca : Nat → Int} {S b t : Int} : ∀ u : Nat, cRk st hr S (t + 1) u + cFl st hr ca S b t u ≤ cRk st hr S t u
  | 0 => by simp [cRk, cFl]
  | u + 1 => by
    have ih := cRk_step (st := st) (hr := hr) (ca := ca) (S := S) (b := b) (t := t) u
    simp only [cRk, cFl]
    by_cases hbit : bitS S (st u)
    · by_cases h1 : t ≤ hr u
      · rw [if_pos (show bitS S (st u) ∧ t ≤ hr u from ⟨hbit, h1⟩)]
        by_cases h2 : t + 1 ≤ hr u
        · rw [if_pos (show bitS S (st u) ∧ t + 1 ≤ hr u from ⟨hbit, h2⟩), if_neg (fun q => by have := q.2; omega)]; omega
        · rw [if_neg (fun q => h2 q.2)]; split <;> omega
      · rw [if_neg (fun q => by have := q.2; omega), if_neg (fun q => by have := q.2; omega), if_neg (fun q => by have := q.2; omega)]; omega
    · rw [if_neg (show ¬ (bitS S (st u) ∧ t + 1 ≤ hr u) from fun q => hbit q.1), if_neg (show ¬ (bitS S (st u) ∧ t ≤ hr u) from fun q => hbit q.1), if_neg (show ¬ ((bitS S (st u) ∧ fby b (ca u)) ∧ hr u = t) from fun q => hbit q.1.1)]; omega
theorem cFl_zero {st hr ca : Nat → Int} {S b t : Int} : ∀ u : Nat, (∀ j, j < u → hr j ≠ t) → cFl st hr ca S b t u = 0
  | 0, _ => rfl
  | u + 1, h => by
    simp only [cFl]
    rw [cFl_zero u (fun j hj => h j (by omega)), if_neg (fun q => h u (by omega) q.2)]; rfl
theorem cFl_pos {st hr ca : Nat → Int} {S b t : Int} : ∀ u : Nat, 0 < cFl st hr ca S b t u ↔ ∃ j, j < u ∧ (bitS S (st j) ∧ fby b (ca j)) ∧ hr j = t
  | 0 => by simp [cFl]
  | u + 1 => by
    have ih := cFl_pos (st := st) (hr := hr) (ca := ca) (S := S) (b := b) (t := t) u
    have hg := (cFl_rng (st := st) (hr := hr) (ca := ca) (S := S) (b := b) (t := t) u).1
    simp only [cFl]
    by_cases hc : (bitS S (st u) ∧ fby b (ca u)) ∧ hr u = t
    · rw [if_pos hc]
      exact ⟨fun _ => ⟨u, by omega, hc⟩, fun _ => by omega⟩
    · rw [if_neg hc, Int.add_zero, ih]
      refine ⟨fun ⟨j, h1, h2⟩ => ⟨j, by omega, h2⟩, fun ⟨j, h1, h2⟩ => ?_⟩
      rcases Nat.lt_or_ge j u with q | q
      · exact ⟨j, q, h2⟩
      · have e : j = u := by omega
        subst e
        exact absurd h2 hc
def FF (n : Int) (st hr ca : Nat → Int) (S b : Int) (t : Nat) : Nat := (cFl st hr ca S b (t : Int) n.toNat).toNat
def RR (n : Int) (st hr : Nat → Int) (S : Int) (t : Nat) : Nat := (cRk st hr S (t : Int) n.toNat).toNat
theorem FF_eq (n : Int) (st hr ca : Nat → Int) (S b : Int) (t : Nat) : cFl st hr ca S b (t : Int) n.toNat = (FF n st hr ca S b t : Int) := by
  have h := (cFl_rng (st := st) (hr := hr) (ca := ca) (S := S) (b := b) (t := (t : Int)) n.toNat).1
  unfold FF; omega
theorem RR_eq (n : Int) (st hr : Nat → Int) (S : Int) (t : Nat) : cRk st hr S (t : Int) n.toNat = (RR n st hr S t : Int) := by
  have h := (cRk_rng (st := st) (hr := hr) (S := S) (t := (t : Int)) n.toNat).1
  unfold RR; omega
theorem ST_of {n : Int} {st hr ca : Nat → Int} (hU : VU n st hr ca) (S b : Int) : STd (FF n st hr ca S b) (RR n st hr S) := by
  obtain ⟨hn, hst, hhr, hh1, hca⟩ := hU
  refine ⟨?_, fun t => ?_, fun t => ?_, fun t ht => ?_⟩
  · unfold FF
    rw [show ((0 : Nat) : Int) = 0 from rfl, cFl_zero n.toNat (fun j hj => by have := hh1 j (by omega); omega)]; rfl
  · have h := cRk_step (st := st) (hr := hr) (ca := ca) (S := S) (b := b) (t := (t : Int)) n.toNat
    rw [show (t : Int) + 1 = ((t + 1 : Nat) : Int) by omega, RR_eq, RR_eq, FF_eq] at h
    omega
  · have h := (cRk_rng (st := st) (hr := hr) (S := S) (t := (t : Int)) n.toNat).2
    rw [RR_eq] at h; omega
  · unfold FF
    rw [cFl_zero n.toNat (fun j hj => by have := hhr j; omega)]; rfl
theorem cNx_spec {st hr ca : Nat → Int} {S b t : Int} (hhr : ∀ j : Nat, 0 ≤ hr j ∧ hr j ≤ 500) : ∀ u : Nat, (cNx st hr ca S b t u = -1 ∧ ∀ j, j < u → (bitS S (st j) ∧ fby b (ca j)) → hr j ≤ t) ∨ ((∃ j, j < u ∧ (bitS S (st j) ∧ fby b (ca j)) ∧ hr j = cNx st hr ca S b t u) ∧ t < cNx st hr ca S b t u ∧ 0 ≤ cNx st hr ca S b t u ∧ ∀ j, j < u → (bitS S (st j) ∧ fby b (ca j)) → t < hr j → cNx st hr ca S b t u ≤ hr j)
  | 0 => Or.inl ⟨rfl, fun j hj => absurd hj (by omega)⟩
  | u + 1 => by
    have ih := cNx_spec (st := st) (ca := ca) (S := S) (b := b) (t := t) hhr u
    have hu := hhr u
    simp only [cNx]
    by_cases hc : ((bitS S (st u) ∧ fby b (ca u)) ∧ t < hr u) ∧ (cNx st hr ca S b t u = -1 ∨ hr u < cNx st hr ca S b t u)
    · rw [if_pos hc]
      refine Or.inr ⟨⟨u, by omega, hc.1.1, rfl⟩, hc.1.2, hu.1, fun j hj hf hlt => ?_⟩
      rcases Nat.lt_or_ge j u with q | q
      · rcases ih with ⟨h1, h2⟩ | ⟨h1, h2, h3, h4⟩
        · have := h2 j q hf; omega
        · have := h4 j q hf hlt
          rcases hc.2 with h5 | h5 <;> omega
      · have e : j = u := by omega
        subst e
        omega
    · rw [if_neg hc]
      rcases ih with ⟨h1, h2⟩ | ⟨⟨i, hi1, hi2, hi3⟩, h2, h3, h4⟩
      · refine Or.inl ⟨h1, fun j hj hf => ?_⟩
        rcases Nat.lt_or_ge j u with q | q
        · exact h2 j q hf
        · have e : j = u := by omega
          subst e
          rcases Int.lt_or_le t (hr j) with q2 | q2
          · exact absurd ⟨⟨hf, q2⟩, Or.inl h1⟩ hc
          · exact q2
      · refine Or.inr ⟨⟨i, by omega, hi2, hi3⟩, h2, h3, fun j hj hf hlt => ?_⟩
        rcases Nat.lt_or_ge j u with q | q
        · exact h4 j q hf hlt
        · have e : j = u := by omega
          subst e
          rcases Int.lt_or_le (hr j) (cNx st hr ca S b t j) with q2 | q2
          · exact absurd ⟨⟨hf, hlt⟩, Or.inr q2⟩ hc
          · exact q2
/-- the next HOUR at which a UNIT failed -/
theorem nx_of {n : Int} {st hr ca : Nat → Int} (hU : VU n st hr ca) (S b : Int) (t : Nat) : (cNx st hr ca S b (t : Int) n.toNat = -1 ∧ ∀ i : Nat, t < i → FF n st hr ca S b i = 0) ∨ (∃ i : Nat, cNx st hr ca S b (t : Int) n.toNat = (i : Int) ∧ t < i ∧ i ≤ 500 ∧ FF n st hr ca S b i ≠ 0 ∧ ∀ x : Nat, t < x → x < i → FF n st hr ca S b x = 0) := by
  obtain ⟨hn, hst, hhr, hh1, hca⟩ := hU
  have zero : ∀ x : Nat, (∀ j, j < n.toNat → (bitS S (st j) ∧ fby b (ca j)) → ¬ hr j = (x : Int)) → FF n st hr ca S b x = 0 := by
    intro x hx
    have h := (cFl_pos (st := st) (hr := hr) (ca := ca) (S := S) (b := b) (t := (x : Int)) n.toNat)
    have h2 := FF_eq n st hr ca S b x
    have h3 : ¬ 0 < cFl st hr ca S b (x : Int) n.toNat := fun q => by
      obtain ⟨j, h4, h5, h6⟩ := h.mp q
      exact hx j h4 h5 h6
    omega
  rcases cNx_spec (st := st) (ca := ca) (S := S) (b := b) (t := (t : Int)) hhr n.toNat with ⟨h1, h2⟩ | ⟨⟨j, hj1, hj2, hj3⟩, h2, h3, h4⟩
  · exact Or.inl ⟨h1, fun i hi => zero i (fun j hj hf q => by have := h2 j hj hf; omega)⟩
  · obtain ⟨i, hi⟩ := Int.eq_ofNat_of_zero_le h3
    have hb := hhr j
    refine Or.inr ⟨i, hi, by omega, by omega, ?_, fun x hx1 hx2 => zero x (fun j2 hj2 hf q => by have := h4 j2 hj2 hf (by omega); omega)⟩
    have h5 := (cFl_pos (st := st) (hr := hr) (ca := ca) (S := S) (b := b) (t := (i : Int)) n.toNat).mpr ⟨j, hj1, hj2, by omega⟩
    have h6 := FF_eq n st hr ca S b i
    omega
