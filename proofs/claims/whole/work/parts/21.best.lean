/-! THE BEST RUN IN -/
def KU (F R : Nat → Nat) (h B : Nat) : Nat := rdU (sumL (lev F R) B (h - B)) (lev F R B)
def KL (F R : Nat → Nat) (h B : Nat) : Nat := rdL (sumL (lev F R) B (h - B)) (lev F R B)
def XU (F R : Nat → Nat) (h : Nat) (cost : Int) (B : Nat) : Int := 100 * (KU F R h B : Int) - (B : Int) * cost * (KL F R h B : Int)
def XV (F R : Nat → Nat) (h : Nat) (cost : Int) (B : Nat) : Int := 100 * (sumL (lev F R) B (h - B) : Int) - (B : Int) * cost * (lev F R B : Int)
def bestF (F R : Nat → Nat) (h : Nat) (cost : Int) : Nat → Nat
  | 0 => 0
  | k + 1 => if 0 < lev F R k ∧ XU F R h cost (bestF F R h cost k) * (KL F R h k : Int) < XU F R h cost k * (KL F R h (bestF F R h cost k) : Int) then k else bestF F R h cost k
theorem bestF_s (F R : Nat → Nat) (h : Nat) (cost : Int) (k : Nat) : bestF F R h cost (k + 1) = if 0 < lev F R k ∧ XU F R h cost (bestF F R h cost k) * (KL F R h k : Int) < XU F R h cost k * (KL F R h (bestF F R h cost k) : Int) then k else bestF F R h cost k := rfl
theorem KL_pos {F R : Nat → Nat} {h B : Nat} (hB : 0 < lev F R B) : 0 < KL F R h B := (rd_back (a := sumL (lev F R) B (h - B)) hB).2.2.2
theorem KL_rng {F R : Nat → Nat} (hs : STd F R) {h B : Nat} (hh : h ≤ 500) (hBh : B ≤ h) (hB : 0 < lev F R B) : 0 < KL F R h B ∧ KL F R h B ≤ 599040 ∧ KU F R h B ≤ 500 * KL F R h B := by
  refine ⟨KL_pos hB, low_sum hs (by omega) hB, ?_⟩
  have h1 := rd_cross (a := sumL (lev F R) B (h - B)) hB
  have h2 : sumL (lev F R) B (h - B) ≤ lev F R B * (h - B) := sumL_le (h - B) (fun x hx1 hx2 => lev_mono hs hx1 (by omega))
  have h3 : lev F R B * (h - B) ≤ lev F R B * 500 := Nat.mul_le_mul_left _ (by omega)
  have h4 : sumL (lev F R) B (h - B) * KL F R h B ≤ (lev F R B * 500) * KL F R h B := Nat.mul_le_mul_right _ (by omega)
  have h5 : KU F R h B * lev F R B ≤ (500 * KL F R h B) * lev F R B := by
    have e : (lev F R B * 500) * KL F R h B = (500 * KL F R h B) * lev F R B := by rw [Nat.mul_comm (lev F R B) 500, Nat.mul_assoc, Nat.mul_comm (lev F R B), ← Nat.mul_assoc]
    rw [← e]
    exact Nat.le_trans (Nat.le_of_eq h1) h4
  exact Nat.le_of_mul_le_mul_right h5 hB
theorem XU_rng {F R : Nat → Nat} (hs : STd F R) {h B : Nat} {cost : Int} (hh : h ≤ 500) (hBh : B ≤ h) (hc : 0 ≤ cost ∧ cost ≤ 100) (hB : 0 < lev F R B) : -29952000000 ≤ XU F R h cost B ∧ XU F R h cost B ≤ 29952000000 := by
  obtain ⟨k1, k2, k3⟩ := KL_rng hs hh hBh hB
  have m1 := mul_rng (a := (B : Int)) (b := cost) (A := 500) (B := 100) (by omega) hc
  have m2 := mul_rng (a := (B : Int) * cost) (b := (KL F R h B : Int)) (A := 50000) (B := 599040) (by omega) (by omega)
  unfold XU
  omega
theorem XUV {F R : Nat → Nat} {h B : Nat} {cost : Int} (hB : 0 < lev F R B) : XU F R h cost B * (lev F R B : Int) = XV F R h cost B * (KL F R h B : Int) := by
  have h1 := rd_cross (a := sumL (lev F R) B (h - B)) hB
  have h2 : (KU F R h B : Int) * (lev F R B : Int) = (sumL (lev F R) B (h - B) : Int) * (KL F R h B : Int) := by exact_mod_cast h1
  unfold XU XV
  grind
theorem X_iff {a b c d x y : Int} {p q : Int} (hp : 0 < p) (hq : 0 < q) (hx : 0 < x) (hy : 0 < y) (h1 : a * p = c * x) (h2 : b * q = d * y) : a * y ≤ b * x ↔ c * q ≤ d * p := by
  have e1 : (a * y) * (p * q) = (c * q) * (x * y) := by grind
  have e2 : (b * x) * (p * q) = (d * p) * (x * y) := by grind
  have hpq : 0 < p * q := Int.mul_pos hp hq
  have hxy : 0 < x * y := Int.mul_pos hx hy
  refine ⟨fun h => ?_, fun h => ?_⟩
  · have h3 := Int.mul_le_mul_of_nonneg_right h (Int.le_of_lt hpq)
    rw [e1, e2] at h3
    exact Int.le_of_mul_le_mul_right h3 hxy
  · have h3 := Int.mul_le_mul_of_nonneg_right h (Int.le_of_lt hxy)
    rw [← e1, ← e2] at h3
    exact Int.le_of_mul_le_mul_right h3 hpq
theorem X_trans {a b c x y z : Int} (hx : 0 ≤ x) (hy : 0 < y) (hz : 0 ≤ z) (h1 : a * y ≤ b * x) (h2 : b * z ≤ c * y) : a * z ≤ c * x := by
  have h3 := Int.mul_le_mul_of_nonneg_right h1 hz
  have h4 := Int.mul_le_mul_of_nonneg_right h2 hx
  have h5 : (a * z) * y ≤ (c * x) * y := by
    have e1 : a * y * z = (a * z) * y := by grind
    have e2 : b * x * z = b * z * x := by grind
    have e3 : c * y * x = (c * x) * y := by grind
    rw [← e1, ← e3]
    rw [e2] at h3
    exact Int.le_trans h3 h4
  exact Int.le_of_mul_le_mul_right h5 hy
theorem best_lt {F R : Nat → Nat} {h : Nat} {cost : Int} (h0 : 0 < lev F R 0) : ∀ k, 0 < lev F R (bestF F R h cost k) ∧ (bestF F R h cost k < k ∨ bestF F R h cost k = 0)
  | 0 => ⟨h0, Or.inr rfl⟩
  | k + 1 => by
    have ih := best_lt (h := h) (cost := cost) h0 k
    simp only [bestF]
    split
    · rename_i hc
      exact ⟨hc.1, Or.inl (by omega)⟩
    · exact ⟨ih.1, by omega⟩
theorem best_ge {F R : Nat → Nat} {h : Nat} {cost : Int} (h0 : 0 < lev F R 0) : ∀ k B, B < k → 0 < lev F R B → XV F R h cost B * (lev F R (bestF F R h cost k) : Int) ≤ XV F R h cost (bestF F R h cost k) * (lev F R B : Int)
  | 0, B, hB, _ => absurd hB (by omega)
  | k + 1, B, hB, hl => by
    have hy := (best_lt (h := h) (cost := cost) h0 k).1
    have ky := KL_pos (h := h) hy
    simp only [bestF]
    by_cases hc : 0 < lev F R k ∧ XU F R h cost (bestF F R h cost k) * (KL F R h k : Int) < XU F R h cost k * (KL F R h (bestF F R h cost k) : Int)
    · rw [if_pos hc]
      have kk := KL_pos (h := h) hc.1
      have hgt := (X_iff (by omega) (by omega) (by omega) (by omega) (XUV (h := h) (cost := cost) hy) (XUV (h := h) (cost := cost) hc.1)).mp (Int.le_of_lt hc.2)
      rcases Nat.lt_or_ge B k with q | q
      · have ih := best_ge (h := h) (cost := cost) h0 k B q hl
        exact X_trans (by omega) (by omega) (by omega) ih hgt
      · have e : B = k := by omega
        subst e
        exact Int.le_refl _
    · rw [if_neg hc]
      rcases Nat.lt_or_ge B k with q | q
      · exact best_ge (h := h) (cost := cost) h0 k B q hl
      · have e : B = k := by omega
        subst e
        have kk := KL_pos (h := h) hl
        have hle : XU F R h cost B * (KL F R h (bestF F R h cost B) : Int) ≤ XU F R h cost (bestF F R h cost B) * (KL F R h B : Int) := Int.not_lt.mp (fun q => hc ⟨hl, q⟩)
        exact (X_iff (by omega) (by omega) (by omega) (by omega) (XUV (h := h) (cost := cost) hl) (XUV (h := h) (cost := cost) hy)).mp hle
theorem best_skip {F R : Nat → Nat} {h : Nat} {cost : Int} (h0 : 0 < lev F R 0) (hc : 0 ≤ cost) {k : Nat} (hk : k + 1 < h) (hh : h ≤ 500) (hF : F (k + 1) = 0) : bestF F R h cost (k + 1 + 1) = bestF F R h cost (k + 1) := by
  have hy := (best_lt (h := h) (cost := cost) h0 (k + 1)).1
  have hge := best_ge (h := h) (cost := cost) h0 (k + 1) k (by omega)
  have es := lev_same (F := F) (R := R) (t := k) (by omega) hF
  rw [bestF_s F R h cost (k + 1), if_neg]
  intro hlt
  have hl : 0 < lev F R k := by rw [← es]; exact hlt.1
  have hg := hge hl
  have ky := KL_pos (h := h) hy
  have kk := KL_pos (h := h) hlt.1
  have hdec : XV F R h cost (k + 1) ≤ XV F R h cost k := by
    unfold XV
    rw [es]
    have e1 : h - k = 1 + (h - (k + 1)) := by omega
    rw [e1, sumL_add, show sumL (lev F R) k 1 = lev F R k by simp [sumL]]
    have m : 0 ≤ cost * (lev F R k : Int) := Int.mul_nonneg hc (by omega)
    have e2 : ((k + 1 : Nat) : Int) * cost * (lev F R k : Int) = (k : Int) * cost * (lev F R k : Int) + cost * (lev F R k : Int) := by
      have : ((k + 1 : Nat) : Int) = (k : Int) + 1 := by omega
      rw [this]; grind
    rw [e2]
    omega
  have hg2 : XV F R h cost (k + 1) * (lev F R (bestF F R h cost (k + 1)) : Int) ≤ XV F R h cost (bestF F R h cost (k + 1)) * (lev F R (k + 1) : Int) := by
    rw [es]
    exact Int.le_trans (Int.mul_le_mul_of_nonneg_right hdec (by omega)) hg
  have h9 := (X_iff (by omega) (by omega) (by omega) (by omega) (XUV (h := h) (cost := cost) hlt.1) (XUV (h := h) (cost := cost) hy)).mpr hg2
  have h10 := hlt.2
  omega
theorem best_to {F R : Nat → Nat} {h : Nat} {cost : Int} (h0 : 0 < lev F R 0) (hc : 0 ≤ cost) {x : Nat} (hh : h ≤ 500) : ∀ d, x + 1 + d ≤ h → (∀ t, x < t → t < x + 1 + d → F t = 0) → bestF F R h cost (x + 1 + d) = bestF F R h cost (x + 1)
  | 0, _, _ => rfl
  | d + 1, hd, hz => by
    have ih := best_to (cost := cost) h0 hc hh d (by omega) (fun t h1 h2 => hz t h1 (by omega))
    have e : x + 1 + (d + 1) = (x + d) + 1 + 1 := by omega
    rw [e, best_skip h0 hc (by omega) hh (hz (x + d + 1) (by omega) (by omega)), show x + d + 1 = x + 1 + d by omega, ih]
theorem best_zero {F R : Nat → Nat} {h : Nat} {cost : Int} {x : Nat} : ∀ d, (∀ t, x ≤ t → t < x + d → lev F R t = 0) → bestF F R h cost (x + d) = bestF F R h cost x
  | 0, _ => rfl
  | d + 1, hz => by
    rw [← Nat.add_assoc]
    conv => lhs; simp only [bestF]
    rw [if_neg (fun q => by have := hz (x + d) (by omega) (by omega); omega), best_zero d (fun t h1 h2 => hz t h1 (by omega))]
