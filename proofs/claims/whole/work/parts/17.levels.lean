/-! STANDING as numbers: F fails, R at risk, hour by hour; lev t over lev 0 is what is LEFT at t -/
def STd (F R : Nat → Nat) : Prop := F 0 = 0 ∧ (∀ t, R (t + 1) + F t ≤ R t) ∧ (∀ t, R t ≤ 12) ∧ (∀ t, 500 < t → F t = 0)
def uF (F R : Nat → Nat) (t : Nat) : Nat := if F t = 0 then 1 else R t - F t
def dF (F R : Nat → Nat) (t : Nat) : Nat := if F t = 0 then 1 else R t
def prd (f : Nat → Nat) (a : Nat) : Nat → Nat
  | 0 => 1
  | k + 1 => prd f a k * f (a + k + 1)
def lev (F R : Nat → Nat) (t : Nat) : Nat := prd (uF F R) 0 t * prd (dF F R) t (500 - t)
theorem prd_add (f : Nat → Nat) (a k : Nat) : ∀ l, prd f a (k + l) = prd f a k * prd f (a + k) l
  | 0 => by simp [prd]
  | l + 1 => by
    have ih := prd_add f a k l
    rw [← Nat.add_assoc]
    simp only [prd]
    rw [ih, Nat.mul_assoc, show a + (k + l) + 1 = a + k + l + 1 by omega]
theorem prd_one {f : Nat → Nat} {a : Nat} : ∀ k, (∀ i, a < i → i ≤ a + k → f i = 1) → prd f a k = 1
  | 0, _ => rfl
  | k + 1, h => by
    simp only [prd]
    rw [prd_one k (fun i h1 h2 => h i h1 (by omega)), h (a + k + 1) (by omega) (by omega)]
theorem prd_pos {f : Nat → Nat} {a : Nat} : ∀ k, (∀ i, 0 < f i) → 0 < prd f a k
  | 0, _ => by simp [prd]
  | k + 1, h => by
    simp only [prd]
    exact Nat.mul_pos (prd_pos k h) (h _)
theorem prd_1 (f : Nat → Nat) (a : Nat) : prd f a 1 = f (a + 1) := by simp [prd]
theorem dF_pos {F R : Nat → Nat} (h : STd F R) (t : Nat) : 0 < dF F R t := by
  unfold dF
  have h1 := h.2.1 t
  split <;> omega
theorem uF_le {F R : Nat → Nat} (t : Nat) : uF F R t ≤ dF F R t := by
  unfold uF dF
  split <;> omega
theorem lev_step {F R : Nat → Nat} {t : Nat} (ht : t < 500) : lev F R (t + 1) * dF F R (t + 1) = lev F R t * uF F R (t + 1) := by
  unfold lev
  have e : 500 - t = 1 + (500 - (t + 1)) := by omega
  have e2 : prd (dF F R) t (1 + (500 - (t + 1))) = dF F R (t + 1) * prd (dF F R) (t + 1) (500 - (t + 1)) := by rw [prd_add, prd_1]
  have e3 : prd (uF F R) 0 (t + 1) = prd (uF F R) 0 t * uF F R (t + 1) := by simp only [prd, Nat.zero_add]
  rw [e, e2, e3]
  generalize prd (uF F R) 0 t = A
  generalize uF F R (t + 1) = B
  generalize prd (dF F R) (t + 1) (500 - (t + 1)) = X
  generalize dF F R (t + 1) = Y
  rw [Nat.mul_assoc, Nat.mul_assoc, Nat.mul_assoc, Nat.mul_comm B, Nat.mul_comm Y X]
theorem lev_same {F R : Nat → Nat} {t : Nat} (ht : t < 500) (hF : F (t + 1) = 0) : lev F R (t + 1) = lev F R t := by
  have h := lev_step (F := F) (R := R) ht
  have e1 : dF F R (t + 1) = 1 := by unfold dF; rw [if_pos hF]
  have e2 : uF F R (t + 1) = 1 := by unfold uF; rw [if_pos hF]
  rw [e1, e2, Nat.mul_one, Nat.mul_one] at h
  exact h
theorem lev_const {F R : Nat → Nat} {x : Nat} : ∀ k, x + k ≤ 500 → (∀ i, x < i → i ≤ x + k → F i = 0) → lev F R (x + k) = lev F R x
  | 0, _, _ => rfl
  | k + 1, hk, h => by
    rw [← Nat.add_assoc, lev_same (by omega) (h (x + k + 1) (by omega) (by omega)), lev_const k (by omega) (fun i h1 h2 => h i h1 (by omega))]
theorem lev_flat {F R : Nat → Nat} {x y : Nat} (hxy : x ≤ y) (hy : y ≤ 500) (h : ∀ i, x < i → i ≤ y → F i = 0) : lev F R y = lev F R x := by
  obtain ⟨k, rfl⟩ := Nat.exists_eq_add_of_le hxy
  exact lev_const k hy h
theorem lev_le1 {F R : Nat → Nat} (hs : STd F R) {t : Nat} (ht : t < 500) : lev F R (t + 1) ≤ lev F R t := by
  have h := lev_step (F := F) (R := R) ht
  have h1 := dF_pos hs (t + 1)
  have h2 : lev F R t * uF F R (t + 1) ≤ lev F R t * dF F R (t + 1) := Nat.mul_le_mul_left _ (uF_le _)
  rw [← h] at h2
  exact Nat.le_of_mul_le_mul_right h2 h1
theorem lev_le {F R : Nat → Nat} (hs : STd F R) {x : Nat} : ∀ k, x + k ≤ 500 → lev F R (x + k) ≤ lev F R x
  | 0, _ => Nat.le_refl _
  | k + 1, hk => Nat.le_trans (show lev F R (x + k + 1) ≤ lev F R (x + k) from lev_le1 hs (by omega)) (lev_le hs k (by omega))
theorem lev_mono {F R : Nat → Nat} (hs : STd F R) {x y : Nat} (hxy : x ≤ y) (hy : y ≤ 500) : lev F R y ≤ lev F R x := by
  obtain ⟨k, rfl⟩ := Nat.exists_eq_add_of_le hxy
  exact lev_le hs k hy
def fc : Nat → Nat
  | 0 => 1
  | n + 1 => (n + 1) * fc n
theorem fc_pos : ∀ n, 0 < fc n
  | 0 => by decide
  | n + 1 => Nat.mul_pos (by omega) (fc_pos n)
theorem fc_mono {a : Nat} : ∀ k, fc a ≤ fc (a + k)
  | 0 => Nat.le_refl _
  | k + 1 => Nat.le_trans (fc_mono k) (by show fc (a + k) ≤ (a + k + 1) * fc (a + k); exact Nat.le_mul_of_pos_left _ (by omega))
theorem prd_fc {F R : Nat → Nat} (hs : STd F R) : ∀ k, prd (dF F R) 0 k * fc (R (k + 1)) ≤ fc 12
  | 0 => by
    obtain ⟨d, hd⟩ := Nat.exists_eq_add_of_le (hs.2.2.1 1)
    simp only [prd, Nat.one_mul]
    rw [hd]; exact fc_mono d
  | k + 1 => by
    have ih := prd_fc hs k
    refine Nat.le_trans ?_ ih
    simp only [prd, Nat.zero_add]
    rw [Nat.mul_assoc]
    refine Nat.mul_le_mul_left _ ?_
    have h1 := hs.2.1 (k + 1)
    unfold dF
    split
    · rw [Nat.one_mul]
      obtain ⟨d, hd⟩ := Nat.exists_eq_add_of_le (show R (k + 1 + 1) ≤ R (k + 1) by omega)
      rw [hd]; exact fc_mono d
    · obtain ⟨r, hr⟩ : ∃ r, R (k + 1) = r + 1 := ⟨R (k + 1) - 1, by omega⟩
      rw [hr]
      show (r + 1) * fc (R (k + 1 + 1)) ≤ (r + 1) * fc r
      refine Nat.mul_le_mul_left _ ?_
      obtain ⟨d, hd⟩ := Nat.exists_eq_add_of_le (show R (k + 1 + 1) ≤ r by omega)
      rw [hd]; exact fc_mono d
theorem lev_0 {F R : Nat → Nat} (hs : STd F R) : 0 < lev F R 0 ∧ lev F R 0 ≤ 479001600 := by
  have e : lev F R 0 = prd (dF F R) 0 500 := by
    show prd (uF F R) 0 0 * prd (dF F R) 0 (500 - 0) = _
    rw [show prd (uF F R) 0 0 = 1 from rfl, Nat.one_mul]
  have h := prd_fc hs 500
  have h2 := fc_pos (R (500 + 1))
  have h3 : prd (dF F R) 0 500 * 1 ≤ prd (dF F R) 0 500 * fc (R (500 + 1)) := Nat.mul_le_mul_left _ h2
  rw [e]
  refine ⟨prd_pos 500 (dF_pos hs), ?_⟩
  have h4 : fc 12 = 479001600 := by decide
  omega
theorem lev_rng {F R : Nat → Nat} (hs : STd F R) {t : Nat} (ht : t ≤ 500) : lev F R t ≤ 479001600 := by
  have h1 := lev_mono hs (Nat.zero_le t) ht
  have h2 := lev_0 hs
  omega
theorem lev_zero {F R : Nat → Nat} (hs : STd F R) {x y : Nat} (hxy : x ≤ y) (hy : y ≤ 500) (h : lev F R x = 0) : lev F R y = 0 := by
  have h1 := lev_mono hs hxy hy
  omega
/-- a sum of LEFT's upper numbers -/
def sumL (f : Nat → Nat) (x : Nat) : Nat → Nat
  | 0 => 0
  | k + 1 => sumL f x k + f (x + k)
theorem sumL_add (f : Nat → Nat) (x k : Nat) : ∀ l, sumL f x (k + l) = sumL f x k + sumL f (x + k) l
  | 0 => by simp [sumL]
  | l + 1 => by
    have ih := sumL_add f x k l
    rw [← Nat.add_assoc]
    simp only [sumL]
    rw [ih, show x + (k + l) = x + k + l by omega]; omega
theorem sumL_const {f : Nat → Nat} {x v : Nat} : ∀ k, (∀ i, x ≤ i → i < x + k → f i = v) → sumL f x k = v * k
  | 0, _ => by simp [sumL]
  | k + 1, h => by
    simp only [sumL]
    rw [sumL_const k (fun i h1 h2 => h i h1 (by omega)), h (x + k) (by omega) (by omega), Nat.mul_succ]
theorem sumL_le {f : Nat → Nat} {x M : Nat} : ∀ k, (∀ i, x ≤ i → i < x + k → f i ≤ M) → sumL f x k ≤ M * k
  | 0, _ => by simp [sumL]
  | k + 1, h => by
    have ih := sumL_le (f := f) (x := x) (M := M) k (fun i h1 h2 => h i h1 (by omega))
    have h1 := h (x + k) (by omega) (by omega)
    simp only [sumL]; rw [Nat.mul_succ]; omega
/-! fractions in least terms -/
def rdU (a b : Nat) : Nat := a / Nat.gcd a b
def rdL (a b : Nat) : Nat := b / Nat.gcd a b
theorem rd_mul {a b g : Nat} (hg : 0 < g) : rdU (a * g) (b * g) = rdU a b ∧ rdL (a * g) (b * g) = rdL a b := by
  unfold rdU rdL
  rw [Nat.gcd_mul_right]
  exact ⟨Nat.mul_div_mul_right _ _ hg, Nat.mul_div_mul_right _ _ hg⟩
theorem rd_eq {a b x y : Nat} (hb : 0 < b) (hy : 0 < y) (h : a * y = x * b) : rdU a b = rdU x y ∧ rdL a b = rdL x y := by
  have h1 := rd_mul (a := a) (b := b) hy
  have h2 := rd_mul (a := x) (b := y) hb
  rw [h, Nat.mul_comm b y] at h1
  exact ⟨h1.1.symm.trans h2.1, h1.2.symm.trans h2.2⟩
theorem rd_back {a b : Nat} (hb : 0 < b) : rdU a b * Nat.gcd a b = a ∧ rdL a b * Nat.gcd a b = b ∧ 0 < Nat.gcd a b ∧ 0 < rdL a b := by
  have hg : 0 < Nat.gcd a b := Nat.gcd_pos_of_pos_right a hb
  refine ⟨Nat.div_mul_cancel (Nat.gcd_dvd_left a b), Nat.div_mul_cancel (Nat.gcd_dvd_right a b), hg, ?_⟩
  exact Nat.div_pos (Nat.gcd_le_right a hb) hg
theorem rd_cross {a b : Nat} (hb : 0 < b) : rdU a b * b = a * rdL a b := by
  obtain ⟨h1, h2, h3, h4⟩ := rd_back (a := a) hb
  have e1 : rdU a b * (rdL a b * Nat.gcd a b) = rdU a b * Nat.gcd a b * rdL a b := by rw [Nat.mul_comm (rdL a b), Nat.mul_assoc]
  rw [h1, h2] at e1
  exact e1
/-- the lower number divides every lower number -/
theorem rd_dvd {a b q x : Nat} (hb : 0 < b) (h : a * q = x * b) : rdL a b ∣ q := by
  obtain ⟨h1, h2, h3, h4⟩ := rd_back (a := a) hb
  have hc : Nat.Coprime (rdL a b) (rdU a b) := (Nat.coprime_div_gcd_div_gcd h3).symm
  refine hc.dvd_of_dvd_mul_left ⟨x, ?_⟩
  have e : (rdU a b * q) * Nat.gcd a b = (rdL a b * x) * Nat.gcd a b := by
    rw [Nat.mul_right_comm, h1, h, Nat.mul_right_comm, h2, Nat.mul_comm]
  exact Nat.eq_of_mul_eq_mul_right h3 e
