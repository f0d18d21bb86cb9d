/-! the reference's own numbers of STANDING -/
def HRW (F R : Nat → Nat) (fr rr : Nat → Int) : Prop := ∀ t : Nat, t ≤ 500 → fr t = (F t : Int) ∧ (F t ≠ 0 → rr t = (R t : Int))
theorem rd_self {a : Nat} (h : 0 < a) : rdU a a = 1 ∧ rdL a a = 1 := by
  unfold rdU rdL
  rw [Nat.gcd_self]
  exact ⟨Nat.div_self h, Nat.div_self h⟩
theorem rd_nil {a : Nat} (h : 0 < a) : rdU 0 a = 0 ∧ rdL 0 a = 1 := by
  unfold rdU rdL
  rw [Nat.gcd_zero_left]
  exact ⟨Nat.zero_div _, Nat.div_self h⟩
theorem rd_le {a b k : Nat} (hb : 0 < b) (h : a ≤ k * b) : rdU a b ≤ k * rdL a b := by
  have h1 := rd_cross (a := a) hb
  have h2 : a * rdL a b ≤ k * b * rdL a b := Nat.mul_le_mul_right _ h
  rw [← h1, Nat.mul_right_comm] at h2
  exact Nat.le_of_mul_le_mul_right h2 hb
/-- one HOUR with a failure -/
theorem go_eq {F R : Nat → Nat} (hs : STd F R) {B t0 : Nat} (ht : t0 < 500) (hB : 0 < lev F R B) (hF : F (t0 + 1) ≠ 0) :
    rdU (rdU (lev F R t0) (lev F R B) * (R (t0 + 1) - F (t0 + 1))) (rdL (lev F R t0) (lev F R B) * R (t0 + 1)) = rdU (lev F R (t0 + 1)) (lev F R B) ∧ rdL (rdU (lev F R t0) (lev F R B) * (R (t0 + 1) - F (t0 + 1))) (rdL (lev F R t0) (lev F R B) * R (t0 + 1)) = rdL (lev F R (t0 + 1)) (lev F R B) := by
  have hst := lev_step (F := F) (R := R) ht
  have e1 : dF F R (t0 + 1) = R (t0 + 1) := by unfold dF; rw [if_neg hF]
  have e2 : uF F R (t0 + 1) = R (t0 + 1) - F (t0 + 1) := by unfold uF; rw [if_neg hF]
  rw [e1, e2] at hst
  have hc := rd_cross (a := lev F R t0) hB
  have hp := (rd_back (a := lev F R t0) hB).2.2.2
  have hR := hs.2.1 (t0 + 1)
  refine rd_eq (Nat.mul_pos hp (by omega)) hB ?_
  generalize R (t0 + 1) - F (t0 + 1) = x at *
  generalize R (t0 + 1) = r at *
  generalize rdU (lev F R t0) (lev F R B) = U at *
  generalize rdL (lev F R t0) (lev F R B) = L at *
  generalize lev F R (t0 + 1) = L1 at *
  generalize lev F R t0 = L0 at *
  generalize lev F R B = LB at *
  have a1 : U * x * LB = (U * LB) * x := Nat.mul_right_comm U x LB
  have a2 : L1 * (L * r) = (L1 * r) * L := by rw [Nat.mul_comm L r, ← Nat.mul_assoc]
  rw [a1, a2, hc, hst, Nat.mul_right_comm]
/-- one more to the sum -/
theorem add_eq {A L LB : Nat} (hB : 0 < LB) :
    rdU (rdU A LB * rdL L LB + rdU L LB * rdL A LB) (rdL A LB * rdL L LB) = rdU (A + L) LB ∧ rdL (rdU A LB * rdL L LB + rdU L LB * rdL A LB) (rdL A LB * rdL L LB) = rdL (A + L) LB := by
  have h1 := rd_cross (a := A) hB
  have h2 := rd_cross (a := L) hB
  have p1 := (rd_back (a := A) hB).2.2.2
  have p2 := (rd_back (a := L) hB).2.2.2
  refine rd_eq (Nat.mul_pos p1 p2) hB ?_
  generalize rdU A LB = U1 at *
  generalize rdL A LB = L1 at *
  generalize rdU L LB = U2 at *
  generalize rdL L LB = L2 at *
  have a1 : (U1 * L2 + U2 * L1) * LB = (U1 * LB) * L2 + (U2 * LB) * L1 := by rw [Nat.add_mul, Nat.mul_right_comm U1, Nat.mul_right_comm U2]
  rw [a1, h1, h2, Nat.add_mul, Nat.mul_assoc A, Nat.mul_assoc L, Nat.mul_comm L2 L1]
theorem nat_div (a b : Nat) : ((a : Int) / (b : Int)) = ((a / b : Nat) : Int) := rfl
theorem nat_mul (a b : Nat) : ((a : Int) * (b : Int)) = ((a * b : Nat) : Int) := rfl
theorem nat_add (a b : Nat) : ((a : Int) + (b : Int)) = ((a + b : Nat) : Int) := rfl
theorem tm_iff {L L0 : Nat} (h0 : 0 < L0) {a b : Int} : (rdU L L0 : Int) * b ≤ a * (rdL L L0 : Int) ↔ (L : Int) * b ≤ (L0 : Int) * a := by
  obtain ⟨h1, h2, h3, h4⟩ := rd_back (a := L) h0
  have e1 : (L : Int) = (rdU L L0 : Int) * (Nat.gcd L L0 : Int) := by exact_mod_cast h1.symm
  have e2 : (L0 : Int) = (rdL L L0 : Int) * (Nat.gcd L L0 : Int) := by exact_mod_cast h2.symm
  have hg : (0 : Int) < (Nat.gcd L L0 : Int) := by omega
  generalize (Nat.gcd L L0 : Int) = g at *
  generalize (rdU L L0 : Int) = U at *
  generalize (rdL L L0 : Int) = V at *
  have a1 : (L : Int) * b = (U * b) * g := by rw [e1]; grind
  have a2 : (L0 : Int) * a = (a * V) * g := by rw [e2]; grind
  rw [a1, a2]
  exact ⟨fun h => Int.mul_le_mul_of_nonneg_right h (by omega), fun h => Int.le_of_mul_le_mul_right h hg⟩
theorem rdU_pos {L L0 : Nat} (h0 : 0 < L0) : 0 < rdU L L0 ↔ 0 < L := by
  obtain ⟨h1, h2, h3, h4⟩ := rd_back (a := L) h0
  refine ⟨fun h => ?_, fun h => ?_⟩
  · rw [← h1]; exact Nat.mul_pos h h3
  · rcases Nat.eq_zero_or_pos (rdU L L0) with q | q
    · rw [q, Nat.zero_mul] at h1; omega
    · exact q
/-- the floor of a fraction below 0 -/
theorem floor_neg {a b : Int} (hb : 0 < b) : -((-a + b - 1) / b) = a / b := by
  have h1 := Int.mul_ediv_add_emod a b
  have h2 := Int.emod_nonneg a (show b ≠ 0 by omega)
  have h3 := Int.emod_lt_of_pos a hb
  have h4 : (-a + b - 1) / b = -(a / b) := by
    refine Int.le_antisymm ?_ ?_
    · have : (-a + b - 1) / b < -(a / b) + 1 := Int.ediv_lt_of_lt_mul hb (by
        have e : (-(a / b) + 1) * b = -(b * (a / b)) + b := by grind
        rw [e]; omega)
      omega
    · refine Int.le_ediv_of_mul_le hb ?_
      have e : -(a / b) * b = -(b * (a / b)) := by grind
      rw [e]; omega
  omega
theorem frac_gt {a b c d : Int} (hb : 0 < b) (hd : 0 < d) : (c / d < a / b ∨ (a / b = c / d ∧ (c - c / d * d) * b < (a - a / b * b) * d)) ↔ c * b < a * d := by
  have h1 := Int.mul_ediv_add_emod a b
  have h2 := Int.emod_nonneg a (show b ≠ 0 by omega)
  have h3 := Int.emod_lt_of_pos a hb
  have k1 := Int.mul_ediv_add_emod c d
  have k2 := Int.emod_nonneg c (show d ≠ 0 by omega)
  have k3 := Int.emod_lt_of_pos c hd
  have e1 : a - a / b * b = a % b := by rw [Int.mul_comm]; omega
  have e2 : c - c / d * d = c % d := by rw [Int.mul_comm]; omega
  rw [e1, e2]
  generalize a / b = p at *
  generalize c / d = q at *
  generalize a % b = r at *
  generalize c % d = x at *
  have m1 : 0 ≤ r * d := Int.mul_nonneg h2 (by omega)
  have m2 : 0 ≤ x * b := Int.mul_nonneg k2 (by omega)
  have m3 : r * d < b * d := Int.mul_lt_mul_of_pos_right h3 hd
  have m4 : x * b < d * b := Int.mul_lt_mul_of_pos_right k3 hb
  have f1 : a * d = p * (b * d) + r * d := by rw [← h1]; grind
  have f2 : c * b = q * (b * d) + x * b := by rw [← k1]; grind
  have f3 : d * b = b * d := Int.mul_comm d b
  rw [f3] at m4
  rw [f1, f2]
  have hbd : 0 < b * d := Int.mul_pos hb hd
  generalize b * d = w at *
  rcases Int.lt_trichotomy q p with h | h | h
  · have : (q + 1) * w ≤ p * w := Int.mul_le_mul_of_nonneg_right (by omega) (by omega)
    rw [Int.add_mul, Int.one_mul] at this
    exact ⟨fun _ => by omega, fun _ => Or.inl h⟩
  · subst h
    exact ⟨fun h => by omega, fun h => Or.inr ⟨rfl, by omega⟩⟩
  · have : (p + 1) * w ≤ q * w := Int.mul_le_mul_of_nonneg_right (by omega) (by omega)
    rw [Int.add_mul, Int.one_mul] at this
    exact ⟨fun h => by omega, fun h => by omega⟩
/-- the rows that lay fills, u UNITS on -/
def LY (F R : Nat → Nat) (st hr : Nat → Int) (S : Int) (u : Nat) (fr rr : Nat → Int) : Prop := ∀ t : Nat, t ≤ 500 → (fr t = 0 ∨ (fr t = (F t : Int) ∧ rr t = (R t : Int))) ∧ ∀ j, j < u → bitS S (st j) → hr j = (t : Int) → fr t = (F t : Int)
theorem LY_end {n : Int} {st hr ca : Nat → Int} {S b : Int} {fr rr : Nat → Int} (h : LY (FF n st hr ca S b) (RR n st hr S) st hr S n.toNat fr rr) : HRW (FF n st hr ca S b) (RR n st hr S) fr rr := by
  intro t ht
  obtain ⟨h1, h2⟩ := h t ht
  have e : fr t = (FF n st hr ca S b t : Int) := by
    by_cases hz : FF n st hr ca S b t = 0
    · rcases h1 with h1 | h1
      · rw [h1, hz]; rfl
      · exact h1.1
    · have hp := (cFl_pos (st := st) (hr := hr) (ca := ca) (S := S) (b := b) (t := (t : Int)) n.toNat).mp (by have := FF_eq n st hr ca S b t; omega)
      obtain ⟨j, hj1, hj2, hj3⟩ := hp
      exact h2 j hj1 hj2.1 hj3
  refine ⟨e, fun hz => ?_⟩
  rcases h1 with h1 | h1
  · rw [h1] at e; omega
  · exact h1.2
theorem LY_skip {F R : Nat → Nat} {st hr : Nat → Int} {S : Int} {u : Nat} {fr rr : Nat → Int} (h : LY F R st hr S u fr rr) (hn : ¬ bitS S (st u)) : LY F R st hr S (u + 1) fr rr := by
  intro t ht
  obtain ⟨h1, h2⟩ := h t ht
  refine ⟨h1, fun j hj hb hh => ?_⟩
  rcases Nat.lt_or_ge j u with q | q
  · exact h2 j q hb hh
  · have e : j = u := by omega
    subst e
    exact absurd hb hn
theorem LY_have {F R : Nat → Nat} {st hr : Nat → Int} {S : Int} {u : Nat} {fr rr : Nat → Int} (h : LY F R st hr S u fr rr) (hr0 : 0 ≤ hr u ∧ hr u ≤ 500) (hn : ¬ fr (hr u).toNat = 0) : LY F R st hr S (u + 1) fr rr := by
  intro t ht
  obtain ⟨h1, h2⟩ := h t ht
  refine ⟨h1, fun j hj hb hh => ?_⟩
  rcases Nat.lt_or_ge j u with q | q
  · exact h2 j q hb hh
  · have e : j = u := by omega
    subst e
    have e2 : (hr j).toNat = t := by omega
    rw [e2] at hn
    rcases h1 with h1 | h1
    · exact absurd h1 hn
    · exact h1.1
theorem LY_put {F R : Nat → Nat} {st hr : Nat → Int} {S : Int} {u : Nat} {fr rr : Nat → Int} (h : LY F R st hr S u fr rr) (hr0 : 0 ≤ hr u ∧ hr u ≤ 500) : LY F R st hr S (u + 1) (uZ fr (hr u).toNat (F (hr u).toNat : Int)) (uZ rr (hr u).toNat (R (hr u).toNat : Int)) := by
  intro t ht
  obtain ⟨h1, h2⟩ := h t ht
  by_cases e : t = (hr u).toNat
  · subst e
    rw [uZ_s, uZ_s]
    exact ⟨Or.inr ⟨rfl, rfl⟩, fun _ _ _ _ => rfl⟩
  · rw [uZ_n e, uZ_n e]
    refine ⟨h1, fun j hj hb hh => ?_⟩
    rcases Nat.lt_or_ge j u with q | q
    · exact h2 j q hb hh
    · have e3 : j = u := by omega
      subst e3
      omega
theorem cg2 {α β γ : Type} (f : α → β → γ) {a a' : α} {b b' : β} (h1 : a = a') (h2 : b = b') : f a b = f a' b' := by rw [h1, h2]
