/-! the row of pieces -/
def raiseF (lv : Nat → Int) (f : Int) (u : Nat) : Nat → Int := fun j => if j < u then lv j * f else lv j
theorem raise_0 (lv : Nat → Int) (f : Int) : raiseF lv f 0 = lv := by funext j; simp [raiseF]
theorem raise_s (lv : Nat → Int) (f : Int) (u : Nat) : uZ (raiseF lv f u) u (raiseF lv f u u * f) = raiseF lv f (u + 1) := by
  funext j
  by_cases h : j = u
  · subst h; rw [uZ_s]; simp [raiseF]
  · rw [uZ_n h]; unfold raiseF
    by_cases h2 : j < u
    · rw [if_pos h2, if_pos (by omega)]
    · rw [if_neg h2, if_neg (by omega)]
theorem R_anti {F R : Nat → Nat} (hs : STd F R) {x : Nat} : ∀ k, R (x + k) ≤ R x
  | 0 => Nat.le_refl _
  | k + 1 => by
    have h1 := R_anti hs (x := x) k
    have h2 := hs.2.1 (x + k)
    rw [← Nat.add_assoc]; omega
theorem R_mono {F R : Nat → Nat} (hs : STd F R) {x y : Nat} (h : x ≤ y) : R y ≤ R x := by
  obtain ⟨k, rfl⟩ := Nat.exists_eq_add_of_le h
  exact R_anti hs k
def LK (F R : Nat → Nat) (i : Nat) (φ : Nat → Nat) (fr lv : Nat → Int) : Prop :=
  R (φ i + 1) + i ≤ 12 ∧ φ 0 = 0 ∧ φ i ≤ 500 ∧ (∀ j, j < i → φ j < φ (j + 1)) ∧ (∀ j, j < i → ∀ x, φ j < x → x < φ (j + 1) → F x = 0) ∧ (∀ j, j ≤ i → φ j ≤ φ i) ∧ (∀ j, j ≤ i → fr j = (φ j : Int)) ∧ (∀ j, j ≤ i → lv j = ((prd (uF F R) 0 (φ j) * prd (dF F R) (φ j) (φ i - φ j) : Nat) : Int))
def LE (F R : Nat → Nat) (i : Nat) (φ : Nat → Nat) (fr lv : Nat → Int) : Prop :=
  i ≤ 12 ∧ φ 0 = 0 ∧ φ i ≤ 500 ∧ (∀ j, j < i → φ j < φ (j + 1)) ∧ (∀ j, j < i → ∀ x, φ j < x → x < φ (j + 1) → F x = 0) ∧ (∀ x, φ i < x → F x = 0) ∧ (∀ j, j ≤ i → fr j = (φ j : Int) ∧ φ j ≤ φ i) ∧ (∀ j, j ≤ i → lv j = (lev F R (φ j) : Int))
theorem LK_0 {F R : Nat → Nat} (hs : STd F R) (fr lv : Nat → Int) : LK F R 0 (fun _ => 0) (uZ fr 0 0) (uZ lv 0 1) := by
  refine ⟨by have := hs.2.2.1 1; simpa using this, rfl, by simp, fun j hj => absurd hj (by omega), fun j hj => absurd hj (by omega), fun j hj => Nat.le_refl _, fun j hj => ?_, fun j hj => ?_⟩
  · have e : j = 0 := by omega
    subst e; rw [uZ_s]; rfl
  · have e : j = 0 := by omega
    subst e; rw [uZ_s]; rfl
theorem uF_one {F R : Nat → Nat} {x : Nat} (h : F x = 0) : uF F R x = 1 := by unfold uF; rw [if_pos h]
theorem dF_one {F R : Nat → Nat} {x : Nat} (h : F x = 0) : dF F R x = 1 := by unfold dF; rw [if_pos h]
/-- over a stretch with one failure at its end -/
theorem prd_to {F : Nat → Nat} {f : Nat → Nat} (hf : ∀ x, F x = 0 → f x = 1) {a h : Nat} (hlt : a < h) (hz : ∀ x, a < x → x < h → F x = 0) : prd f a (h - a) = f h := by
  obtain ⟨k, hk⟩ : ∃ k, h = a + k + 1 := ⟨h - a - 1, by omega⟩
  rw [show h - a = k + 1 by omega]
  simp only [prd]
  rw [prd_one k (fun i h1 h2 => hf i (hz i h1 (by omega))), Nat.one_mul, ← hk]
theorem LK_step {F R : Nat → Nat} (hs : STd F R) {i : Nat} {φ : Nat → Nat} {fr lv : Nat → Int} (hL : LK F R i φ fr lv) {h : Nat} (h1 : φ i < h) (h2 : h ≤ 500) (h3 : F h ≠ 0) (h4 : ∀ x, φ i < x → x < h → F x = 0) :
    i < 12 ∧ LK F R (i + 1) (fun j => if j = i + 1 then h else φ j) (uZ fr (i + 1) (h : Int)) (raiseF (uZ lv (i + 1) (lv i * ((R h : Int) - (F h : Int)))) (R h : Int) (i + 1)) := by
  obtain ⟨a1, a2, a3, a4, a5, a6, a7, a8⟩ := hL
  have hR1 := hs.2.1 h
  have hR2 : R h ≤ R (φ i + 1) := R_mono hs (by omega)
  have hφ : ∀ j, j ≤ i → (fun j => if j = i + 1 then h else φ j) j = φ j := fun j hj => by
    show (if j = i + 1 then h else φ j) = φ j
    rw [if_neg (by omega)]
  have hφ1 : (fun j => if j = i + 1 then h else φ j) (i + 1) = h := by
    show (if i + 1 = i + 1 then h else φ (i + 1)) = h
    rw [if_pos rfl]
  have eU : prd (uF F R) 0 h = prd (uF F R) 0 (φ i) * (R h - F h) := by
    have e : h = φ i + (h - φ i) := by omega
    have e2 := prd_add (uF F R) 0 (φ i) (h - φ i)
    rw [← e, Nat.zero_add, prd_to (F := F) (fun x hx => uF_one hx) h1 h4] at e2
    rw [e2]; congr 1; unfold uF; rw [if_neg h3]
  have eD : ∀ j, j ≤ i → prd (dF F R) (φ j) (h - φ j) = prd (dF F R) (φ j) (φ i - φ j) * R h := by
    intro j hj
    have h6 := a6 j hj
    have e : h - φ j = (φ i - φ j) + (h - φ i) := by omega
    rw [e, prd_add, show φ j + (φ i - φ j) = φ i by omega, prd_to (F := F) (fun x hx => dF_one hx) h1 h4]
    congr 1; unfold dF; rw [if_neg h3]
  refine ⟨by omega, ?_, ?_, ?_, ?_, ?_, ?_, ?_, ?_⟩
  · rw [hφ1]; omega
  · rw [hφ 0 (by omega)]; exact a2
  · rw [hφ1]; exact h2
  · intro j hj
    rcases Nat.lt_or_ge j i with q | q
    · rw [hφ j (by omega), hφ (j + 1) (by omega)]; exact a4 j q
    · have e : j = i := by omega
      subst e
      rw [hφ j (by omega), hφ1]; exact h1
  · intro j hj x hx1 hx2
    rcases Nat.lt_or_ge j i with q | q
    · rw [hφ j (by omega)] at hx1; rw [hφ (j + 1) (by omega)] at hx2; exact a5 j q x hx1 hx2
    · have e : j = i := by omega
      subst e
      rw [hφ j (by omega)] at hx1; rw [hφ1] at hx2; exact h4 x hx1 hx2
  · intro j hj
    rw [hφ1]
    rcases Nat.lt_or_ge j (i + 1) with q | q
    · rw [hφ j (by omega)]; have := a6 j (by omega); omega
    · have e : j = i + 1 := by omega
      subst e
      rw [hφ1]; exact Nat.le_refl _
  · intro j hj
    rcases Nat.lt_or_ge j (i + 1) with q | q
    · rw [hφ j (by omega), uZ_n (by omega)]; exact a7 j (by omega)
    · have e : j = i + 1 := by omega
      subst e
      rw [hφ1, uZ_s]
  · intro j hj
    rcases Nat.lt_or_ge j (i + 1) with q | q
    · rw [hφ j (by omega), hφ1]
      unfold raiseF
      rw [if_pos q, uZ_n (by omega), a8 j (by omega), eD j (by omega), ← Nat.mul_assoc]
      rfl
    · have e : j = i + 1 := by omega
      subst e
      rw [hφ1, Nat.sub_self]
      unfold raiseF
      rw [if_neg (by omega), uZ_s, a8 i (by omega), Nat.sub_self, eU]
      have e5 : (R h : Int) - (F h : Int) = ((R h - F h : Nat) : Int) := by omega
      rw [e5, show prd (dF F R) (φ i) 0 = 1 from rfl, show prd (dF F R) h 0 = 1 from rfl, Nat.mul_one, Nat.mul_one]
      rfl
theorem LE_of {F R : Nat → Nat} {i : Nat} {φ : Nat → Nat} {fr lv : Nat → Int} (hL : LK F R i φ fr lv) (hz : ∀ x, φ i < x → F x = 0) : LE F R i φ fr lv := by
  obtain ⟨a1, a2, a3, a4, a5, a6, a7, a8⟩ := hL
  refine ⟨by omega, a2, a3, a4, a5, hz, fun j hj => ⟨a7 j hj, a6 j hj⟩, fun j hj => ?_⟩
  rw [a8 j hj]
  have h6 := a6 j hj
  unfold lev
  rw [show 500 - φ j = (φ i - φ j) + (500 - φ i) by omega, prd_add, show φ j + (φ i - φ j) = φ i by omega, prd_one (f := dF F R) (a := φ i) (500 - φ i) (fun x h1 _ => dF_one (hz x h1)), Nat.mul_one]
/-- the end of a piece: the next piece's beginning, or 501 -/
def nxt (φ : Nat → Nat) (i u : Nat) : Nat := if u ≤ i then φ u else 501
theorem LE_nxt {F R : Nat → Nat} {i : Nat} {φ : Nat → Nat} {fr lv : Nat → Int} (hE : LE F R i φ fr lv) {u : Nat} (hu : u ≤ i) : φ u < nxt φ i (u + 1) ∧ nxt φ i (u + 1) ≤ 501 := by
  obtain ⟨a1, a2, a3, a4, a5, a6, a7, a8⟩ := hE
  unfold nxt
  by_cases h : u + 1 ≤ i
  · rw [if_pos h]
    have h1 := a4 u (by omega)
    have h2 := (a7 (u + 1) h).2
    omega
  · rw [if_neg h]
    have h2 := (a7 u hu).2
    omega
theorem LE_zero {F R : Nat → Nat} {i : Nat} {φ : Nat → Nat} {fr lv : Nat → Int} (hE : LE F R i φ fr lv) {u x : Nat} (hu : u ≤ i) (h1 : φ u < x) (h2 : x < nxt φ i (u + 1)) : F x = 0 := by
  obtain ⟨a1, a2, a3, a4, a5, a6, a7, a8⟩ := hE
  unfold nxt at h2
  by_cases h : u + 1 ≤ i
  · rw [if_pos h] at h2
    exact a5 u (by omega) x h1 h2
  · have e : u = i := by omega
    subst e
    exact a6 x h1
theorem LE_lev {F R : Nat → Nat} {i : Nat} {φ : Nat → Nat} {fr lv : Nat → Int} (hE : LE F R i φ fr lv) {u t : Nat} (hu : u ≤ i) (h1 : φ u ≤ t) (h2 : t < nxt φ i (u + 1)) : lev F R t = lev F R (φ u) := by
  have h3 := LE_nxt hE hu
  exact lev_flat h1 (by omega) (fun x hx1 hx2 => LE_zero hE hu hx1 (by omega))
/-! the first HOUR of a share -/
def timeF (T : Nat → Prop) [DecidablePred T] : Nat → Int
  | 0 => -1
  | d + 1 => if T (500 - d) then ((500 - d : Nat) : Int) else timeF T d
theorem timeF_hit {T : Nat → Prop} [DecidablePred T] {x : Nat} (hx : x ≤ 500) (h : T x) : timeF T (501 - x) = (x : Int) := by
  rw [show 501 - x = (500 - x) + 1 by omega]
  simp only [timeF]
  rw [show 500 - (500 - x) = x by omega, if_pos h]
theorem timeF_skip {T : Nat → Prop} [DecidablePred T] {x : Nat} : ∀ k, x + k ≤ 501 → (∀ t, x ≤ t → t < x + k → ¬ T t) → timeF T (501 - x) = timeF T (501 - (x + k))
  | 0, _, _ => rfl
  | k + 1, hk, h => by
    rw [timeF_skip k (by omega) (fun t h1 h2 => h t h1 (by omega)), show 501 - (x + k) = (501 - (x + (k + 1))) + 1 by omega]
    simp only [timeF]
    rw [if_neg (by rw [show 500 - (501 - (x + (k + 1))) = x + k by omega]; exact h (x + k) (by omega) (by omega))]
theorem timeF_to {T : Nat → Prop} [DecidablePred T] {x y : Nat} (hxy : x ≤ y) (hy : y ≤ 501) (h : ∀ t, x ≤ t → t < y → ¬ T t) : timeF T (501 - x) = timeF T (501 - y) := by
  obtain ⟨k, rfl⟩ := Nat.exists_eq_add_of_le hxy
  exact timeF_skip k hy h
abbrev tmT (F R : Nat → Nat) (a b : Int) (t : Nat) : Prop := (lev F R t : Int) * b ≤ (lev F R 0 : Int) * a
/-- one piece's share in a sum -/
theorem sum_piece {F R : Nat → Nat} {i : Nat} {φ : Nat → Nat} {fr lv : Nat → Int} (hE : LE F R i φ fr lv) {u B E : Nat} (hu : u ≤ i) (hBE : B ≤ E) (hE5 : E ≤ 500) :
    (sumL (lev F R) B (min (nxt φ i (u + 1)) E - B) : Int) = (sumL (lev F R) B (min (φ u) E - B) : Int) + (lev F R (φ u) : Int) * max 0 (min (nxt φ i (u + 1) : Int) E - max (φ u : Int) B) := by
  have h3 := LE_nxt hE hu
  obtain ⟨k, hk⟩ : ∃ k, min (nxt φ i (u + 1)) E - B = (min (φ u) E - B) + k := ⟨(min (nxt φ i (u + 1)) E - B) - (min (φ u) E - B), by omega⟩
  have hk2 : max 0 (min (nxt φ i (u + 1) : Int) E - max (φ u : Int) B) = (k : Int) := by omega
  rw [hk, hk2, sumL_add]
  have e : sumL (lev F R) (B + (min (φ u) E - B)) k = lev F R (φ u) * k := sumL_const k (fun x h1 h2 => LE_lev hE hu (by omega) (by omega))
  rw [e]
  rfl
