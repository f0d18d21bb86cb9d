theorem mul_rngS {a b A B : Int} (ha : -A ≤ a ∧ a ≤ A) (hb : 0 ≤ b ∧ b ≤ B) : -(A * B) ≤ a * b ∧ a * b ≤ A * B := by
  have hA : 0 ≤ A := by omega
  have h1 : a * b ≤ A * b := Int.mul_le_mul_of_nonneg_right ha.2 hb.1
  have h2 : -A * b ≤ a * b := Int.mul_le_mul_of_nonneg_right ha.1 hb.1
  have h3 : A * b ≤ A * B := Int.mul_le_mul_of_nonneg_left hb.2 hA
  have h4 : -A * b = -(A * b) := Int.neg_mul A b
  omega
def BI (F R : Nat → Nat) (h : Nat) (cost : Int) (φ : Nat → Nat) (u : Nat) (z3 z4 z6 : Int) : Prop :=
  (u = 0 ∧ z3 = 0) ∨ (1 ≤ u ∧ φ (u - 1) < h ∧ 0 < lev F R (φ (u - 1)) ∧ z3 = (bestF F R h cost (φ (u - 1) + 1) : Int) ∧ z4 = XU F R h cost (bestF F R h cost (φ (u - 1) + 1)) ∧ z6 = (KL F R h (bestF F R h cost (φ (u - 1) + 1)) : Int))
theorem best_piece {F R : Nat → Nat} (hs : STd F R) {i : Nat} {φ : Nat → Nat} {fr lv : Nat → Int} (hE : LE F R i φ fr lv) {h : Nat} {cost : Int} (hh : h ≤ 500) (hc : 0 ≤ cost) {u y : Nat} (hu : u ≤ i) (h1 : φ u < y) (h2 : y ≤ nxt φ i (u + 1)) (h3 : y ≤ h) : bestF F R h cost y = bestF F R h cost (φ u + 1) := by
  obtain ⟨d, hd⟩ : ∃ d, y = φ u + 1 + d := ⟨y - (φ u + 1), by omega⟩
  subst hd
  exact best_to (lev_0 hs).1 hc hh d h3 (fun t h4 h5 => LE_zero hE hu h4 (by omega))
theorem BI_rng {F R : Nat → Nat} (hs : STd F R) {φ : Nat → Nat} {h : Nat} {cost : Int} (hh : h ≤ 500) (hc : 0 ≤ cost ∧ cost ≤ 100) {u : Nat} {z3 z4 z6 : Int} (hB : BI F R h cost φ u z3 z4 z6) (hu : u ≠ 0) : (-29952000000 ≤ z4 ∧ z4 ≤ 29952000000) ∧ 0 < z6 ∧ z6 ≤ 599040 := by
  rcases hB with hB | ⟨b1, b2, b3, b4, b5, b6⟩
  · exact absurd hB.1 hu
  · have hy := best_lt (F := F) (R := R) (h := h) (cost := cost) (lev_0 hs).1 (φ (u - 1) + 1)
    have k1 := KL_rng hs hh (B := bestF F R h cost (φ (u - 1) + 1)) (by omega) hy.1
    have k2 := XU_rng hs hh (B := bestF F R h cost (φ (u - 1) + 1)) (by omega) hc hy.1
    rw [b5, b6]
    omega
theorem BI_set {F R : Nat → Nat} (hs : STd F R) {i : Nat} {φ : Nat → Nat} {fr lv : Nat → Int} (hE : LE F R i φ fr lv) {h : Nat} {cost : Int} (hh : h ≤ 500) (hc : 0 ≤ cost ∧ cost ≤ 100) {u : Nat} {z3 z4 z6 : Int} (hB : BI F R h cost φ u z3 z4 z6) (hu : u ≤ i) (h1 : φ u < h) (h2 : 0 < lev F R (φ u)) (h3 : u = 0 ∨ z4 * (KL F R h (φ u) : Int) < XU F R h cost (φ u) * z6) : BI F R h cost φ (u + 1) (φ u : Int) (XU F R h cost (φ u)) (KL F R h (φ u) : Int) := by
  have e : bestF F R h cost (φ u + 1) = φ u := by
    rcases hB with hB | ⟨b1, b2, b3, b4, b5, b6⟩
    · rw [hB.1, hE.2.1, bestF_s]
      split <;> rfl
    · have h4 : φ (u - 1) < φ u := by have := hE.2.2.2.1 (u - 1) (by omega); rwa [show u - 1 + 1 = u by omega] at this
      have hp := best_piece hs hE (cost := cost) hh hc.1 (u := u - 1) (y := φ u) (by omega) h4 (by rw [nxt, show u - 1 + 1 = u by omega, if_pos hu]; exact Nat.le_refl _) (by omega)
      rw [bestF_s, if_pos]
      refine ⟨h2, ?_⟩
      rw [hp, ← b5, ← b6]
      rcases h3 with h3 | h3
      · omega
      · exact h3
  exact Or.inr ⟨by omega, by rw [Nat.add_sub_cancel]; exact h1, by rw [Nat.add_sub_cancel]; exact h2, by rw [Nat.add_sub_cancel, e], by rw [Nat.add_sub_cancel, e], by rw [Nat.add_sub_cancel, e]⟩
theorem BI_keep {F R : Nat → Nat} (hs : STd F R) {i : Nat} {φ : Nat → Nat} {fr lv : Nat → Int} (hE : LE F R i φ fr lv) {h : Nat} {cost : Int} (hh : h ≤ 500) (hc : 0 ≤ cost ∧ cost ≤ 100) {u : Nat} {z3 z4 z6 : Int} (hB : BI F R h cost φ u z3 z4 z6) (hu : u ≤ i) (hu0 : u ≠ 0) (h1 : φ u < h) (h2 : 0 < lev F R (φ u)) (h3 : XU F R h cost (φ u) * z6 ≤ z4 * (KL F R h (φ u) : Int)) : BI F R h cost φ (u + 1) z3 z4 z6 := by
  rcases hB with hB | ⟨b1, b2, b3, b4, b5, b6⟩
  · exact absurd hB.1 hu0
  · have h4 : φ (u - 1) < φ u := by have := hE.2.2.2.1 (u - 1) (by omega); rwa [show u - 1 + 1 = u by omega] at this
    have hp := best_piece hs hE (cost := cost) hh hc.1 (u := u - 1) (y := φ u) (by omega) h4 (by rw [nxt, show u - 1 + 1 = u by omega, if_pos hu]; exact Nat.le_refl _) (by omega)
    have e : bestF F R h cost (φ u + 1) = bestF F R h cost (φ (u - 1) + 1) := by
      rw [bestF_s, if_neg, hp]
      rw [hp, ← b5, ← b6]
      exact fun q => absurd q.2 (by omega)
    exact Or.inr ⟨by omega, by rw [Nat.add_sub_cancel]; exact h1, by rw [Nat.add_sub_cancel]; exact h2, by rw [Nat.add_sub_cancel, e]; exact b4, by rw [Nat.add_sub_cancel, e]; exact b5, by rw [Nat.add_sub_cancel, e]; exact b6⟩
theorem BI_end {F R : Nat → Nat} (hs : STd F R) {i : Nat} {φ : Nat → Nat} {fr lv : Nat → Int} (hE : LE F R i φ fr lv) {h : Nat} {cost : Int} (hh : 1 ≤ h ∧ h ≤ 500) (hc : 0 ≤ cost ∧ cost ≤ 100) {u : Nat} {z3 z4 z6 : Int} (hB : BI F R h cost φ u z3 z4 z6) (hu : u ≤ i + 1) (he : u = i + 1 ∨ h ≤ φ u ∨ lev F R (φ u) = 0) : z3 = (bestF F R h cost h : Int) := by
  rcases hB with hB | ⟨b1, b2, b3, b4, b5, b6⟩
  · exfalso
    have h0 := hE.2.1
    have h1 := (lev_0 hs).1
    rw [hB.1, h0] at he
    omega
  · rw [b4]
    have hn : nxt φ i (u - 1 + 1) = nxt φ i u := by rw [show u - 1 + 1 = u by omega]
    rcases Nat.lt_or_ge u (i + 1) with q | q
    · have h4 : φ (u - 1) < φ u := by have := hE.2.2.2.1 (u - 1) (by omega); rwa [show u - 1 + 1 = u by omega] at this
      have hnu : nxt φ i u = φ u := by rw [nxt, if_pos (by omega)]
      rcases Nat.lt_or_ge (φ u) h with q2 | q2
      · have hz : lev F R (φ u) = 0 := by omega
        have hp := best_piece hs hE (cost := cost) hh.2 hc.1 (u := u - 1) (y := φ u) (by omega) h4 (by omega) (by omega)
        obtain ⟨d, hd⟩ := Nat.exists_eq_add_of_le (Nat.le_of_lt q2)
        have hz2 := best_zero (F := F) (R := R) (h := h) (cost := cost) (x := φ u) d (fun t h5 h6 => lev_zero hs h5 (by omega) hz)
        rw [← hd] at hz2
        rw [hz2, hp]
      · have hp := best_piece hs hE (cost := cost) hh.2 hc.1 (u := u - 1) (y := h) (by omega) b2 (by omega) (Nat.le_refl _)
        rw [hp]
    · have hnu : nxt φ i u = 501 := by rw [nxt, if_neg (by omega)]
      have hp := best_piece hs hE (cost := cost) hh.2 hc.1 (u := u - 1) (y := h) (by omega) b2 (by omega) (Nat.le_refl _)
      rw [hp]
