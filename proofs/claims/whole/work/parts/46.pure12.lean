/-! fractions in lowest terms, added up -/
theorem gfac {x b : Int} (hb : 1 ≤ b) : (1 ≤ ((Int.gcd x b : Nat) : Int) ∧ ((Int.gcd x b : Nat) : Int) ≤ b) ∧ ((Int.gcd x b : Nat) : Int) * x.tdiv (Int.gcd x b) = x ∧ ((Int.gcd x b : Nat) : Int) * b.tdiv (Int.gcd x b) = b ∧ (1 ≤ b.tdiv (Int.gcd x b) ∧ b.tdiv (Int.gcd x b) ≤ b) ∧ Int.gcd (x.tdiv (Int.gcd x b)) (b.tdiv (Int.gcd x b)) = 1 := by
  have hg : 0 < Int.gcd x b := Int.gcd_pos_of_ne_zero_right _ (by omega)
  have e1 : ((Int.gcd x b : Nat) : Int) * x.tdiv (Int.gcd x b) = x := Int.mul_tdiv_cancel' (Int.gcd_dvd_left x b)
  have e2 : ((Int.gcd x b : Nat) : Int) * b.tdiv (Int.gcd x b) = b := Int.mul_tdiv_cancel' (Int.gcd_dvd_right x b)
  have hgb : Nat.gcd x.natAbs b.natAbs ≤ b.natAbs := Nat.gcd_le_right _ (by omega)
  have hgb2 : Int.gcd x b ≤ b.natAbs := hgb
  have h3 := q_tdiv_lt (x := b) (y := ((Int.gcd x b : Nat) : Int)) (M := b) (by omega) (Int.le_refl _)
  have h4 : 1 ≤ b.tdiv (Int.gcd x b) := by
    by_cases z : 1 ≤ b.tdiv (Int.gcd x b)
    · exact z
    · have h5 : ((Int.gcd x b : Nat) : Int) * b.tdiv (Int.gcd x b) ≤ 0 := Int.mul_nonpos_of_nonneg_of_nonpos (by omega) (by omega)
      omega
  refine ⟨⟨by omega, by omega⟩, e1, e2, ⟨h4, h3.2⟩, ?_⟩
  have h6 : Nat.gcd x.natAbs b.natAbs = Int.gcd x b * Nat.gcd (x.tdiv (Int.gcd x b)).natAbs (b.tdiv (Int.gcd x b)).natAbs := by
    have n1 : x.natAbs = Int.gcd x b * (x.tdiv (Int.gcd x b)).natAbs := by
      have := congrArg Int.natAbs e1
      rw [Int.natAbs_mul, Int.natAbs_natCast] at this
      exact this.symm
    have n2 : b.natAbs = Int.gcd x b * (b.tdiv (Int.gcd x b)).natAbs := by
      have := congrArg Int.natAbs e2
      rw [Int.natAbs_mul, Int.natAbs_natCast] at this
      exact this.symm
    conv => lhs; rw [n1, n2]
    exact Nat.gcd_mul_left _ _ _
  have h7 : Int.gcd x b = Int.gcd x b * Int.gcd (x.tdiv (Int.gcd x b)) (b.tdiv (Int.gcd x b)) := h6
  have h8 : Int.gcd x b * 1 = Int.gcd x b * Int.gcd (x.tdiv (Int.gcd x b)) (b.tdiv (Int.gcd x b)) := by rw [Nat.mul_one]; exact h7
  exact (Nat.eq_of_mul_eq_mul_left hg h8).symm
def adD (x b : Int) : Int := b.tdiv (Int.gcd x b)
def adG (o x b : Int) : Int := ((Int.gcd o (adD x b) : Nat) : Int)
def adN (a o x b : Int) : Int := a * (adD x b).tdiv (adG o x b) + x.tdiv (Int.gcd x b) * o.tdiv (adG o x b)
def adM (o x b : Int) : Int := o.tdiv (adG o x b) * adD x b
def adS (a o x b : Int) : Int := (adN a o x b).tdiv ((Int.gcd (adN a o x b) (adM o x b) : Nat) : Int)
def adO (a o x b : Int) : Int := (adM o x b).tdiv ((Int.gcd (adN a o x b) (adM o x b) : Nat) : Int)
theorem tdiv_le {x g N : Int} (h : q_bd x N) : q_bd (x.tdiv g) N := by
  have := q_tdiv_lt (y := g) h.1 h.2
  exact this
theorem ad_ok {a o x b A O m B : Int} (ho : 1 ≤ o ∧ o ≤ O) (hb : 1 ≤ b ∧ b ≤ B) (ha : q_bd a A) (hx : q_bd x m) (h1 : A * B ≤ 4600000000000000000) (h2 : m * O ≤ 4600000000000000000) (h3 : O * B ≤ 4600000000000000000) (hA : 0 ≤ A ∧ 0 ≤ m) :
    (1 ≤ ((Int.gcd x b : Nat) : Int) ∧ ((Int.gcd x b : Nat) : Int) ≤ b) ∧ (1 ≤ adD x b ∧ adD x b ≤ b) ∧ (1 ≤ adG o x b ∧ adG o x b ≤ b) ∧ (1 ≤ (adD x b).tdiv (adG o x b) ∧ (adD x b).tdiv (adG o x b) ≤ b) ∧ (1 ≤ o.tdiv (adG o x b) ∧ o.tdiv (adG o x b) ≤ o) ∧
    q_bd (a * (adD x b).tdiv (adG o x b)) (A * B) ∧ q_bd (x.tdiv (Int.gcd x b) * o.tdiv (adG o x b)) (m * O) ∧ q_bd (adN a o x b) (A * B + m * O) ∧ (1 ≤ adM o x b ∧ adM o x b ≤ O * B) ∧ q_bd (x.tdiv (Int.gcd x b)) m := by
  obtain ⟨f1, f2, f3, f4, f5⟩ := gfac (x := x) (b := b) hb.1
  have hD : 1 ≤ adD x b ∧ adD x b ≤ b := f4
  obtain ⟨k1, k2, k3, k4, k5⟩ := gfac (x := o) (b := adD x b) hD.1
  have e5 : adG o x b * o.tdiv (adG o x b) = o := k2
  have hG : 1 ≤ adG o x b ∧ adG o x b ≤ adD x b := k1
  have hd1 : 1 ≤ (adD x b).tdiv (adG o x b) ∧ (adD x b).tdiv (adG o x b) ≤ adD x b := k4
  have ho1 : 1 ≤ o.tdiv (adG o x b) ∧ o.tdiv (adG o x b) ≤ o := by
    have h5 := q_tdiv_lt (x := o) (y := adG o x b) (M := o) (by omega) (Int.le_refl _)
    refine ⟨?_, h5.2⟩
    by_cases z : 1 ≤ o.tdiv (adG o x b)
    · exact z
    · have h6 : adG o x b * o.tdiv (adG o x b) ≤ 0 := Int.mul_nonpos_of_nonneg_of_nonpos (by omega) (by omega)
      omega
  have b1 : q_bd (a * (adD x b).tdiv (adG o x b)) (A * B) := bd_mul ha (B := B) ⟨by omega, by omega⟩ (Int.le_refl _)
  have b2 : q_bd (x.tdiv (Int.gcd x b)) m := tdiv_le hx
  have b3 : q_bd (x.tdiv (Int.gcd x b) * o.tdiv (adG o x b)) (m * O) := bd_mul b2 (B := O) ⟨by omega, by omega⟩ (Int.le_refl _)
  have b4 : q_bd (adM o x b) (O * B) := bd_mul (A := O) (B := B) ⟨by omega, by omega⟩ ⟨by omega, by omega⟩ (Int.le_refl _)
  have b5 : 1 ≤ adM o x b := by
    have := Int.mul_le_mul ho1.1 hD.1 (by decide) (by omega)
    unfold adM
    omega
  exact ⟨f1, hD, ⟨hG.1, by omega⟩, ⟨hd1.1, by omega⟩, ho1, b1, b3, bd_add b1 b3 (Int.le_refl _), ⟨b5, b4.2⟩, b2⟩
/-- the sum is the sum, in lowest terms -/
theorem ad_rep {a o x b X W : Int} (ho : 1 ≤ o) (hb : 1 ≤ b) (h : a * W = X * o) : adS a o x b * (W * b) = (X * b + x * W) * adO a o x b ∧ 1 ≤ adO a o x b ∧ Int.gcd (adS a o x b) (adO a o x b) = 1 := by
  obtain ⟨f1, f2, f3, f4, f5⟩ := gfac (x := x) (b := b) hb
  have hD : 1 ≤ adD x b := f4.1
  obtain ⟨k1, k2, k3, k4, k5⟩ := gfac (x := o) (b := adD x b) hD
  have ho1 : 1 ≤ o.tdiv (adG o x b) := by
    by_cases z : 1 ≤ o.tdiv (adG o x b)
    · exact z
    · have h6 : adG o x b * o.tdiv (adG o x b) ≤ 0 := Int.mul_nonpos_of_nonneg_of_nonpos (by have : 1 ≤ adG o x b := k1.1; omega) (by omega)
      have e5 : adG o x b * o.tdiv (adG o x b) = o := k2
      omega
  have hM : 1 ≤ adM o x b := by
    have := Int.mul_le_mul ho1 hD (by decide) (by omega)
    unfold adM
    omega
  obtain ⟨g1, g2, g3, g4, g5⟩ := gfac (x := adN a o x b) (b := adM o x b) hM
  refine ⟨?_, g4.1, g5⟩
  have e1 : adN a o x b * (W * b) = (X * b + x * W) * adM o x b := by
    have hk2 : adG o x b * o.tdiv (adG o x b) = o := k2
    have hk3 : adG o x b * (adD x b).tdiv (adG o x b) = adD x b := k3
    have hf3 : ((Int.gcd x b : Nat) : Int) * adD x b = b := f3
    unfold adN adM
    generalize ((Int.gcd x b : Nat) : Int) = B at *
    generalize hx1 : x.tdiv B = x1 at *
    generalize adG o x b = g at *
    generalize ho1' : o.tdiv g = o1 at *
    generalize hd1' : (adD x b).tdiv g = d1 at *
    generalize adD x b = D at *
    rw [← hk2] at h
    rw [← hf3, ← f2, ← hk3]
    have e2 : (a * d1 + x1 * o1) * (W * (B * (g * d1))) = B * g * d1 * (d1 * (a * W) + x1 * o1 * W) := by grind
    rw [e2, h]
    grind
  have n1 : ((Int.gcd (adN a o x b) (adM o x b) : Nat) : Int) * adS a o x b = adN a o x b := g2
  have n2 : ((Int.gcd (adN a o x b) (adM o x b) : Nat) : Int) * adO a o x b = adM o x b := g3
  have e3 : ((Int.gcd (adN a o x b) (adM o x b) : Nat) : Int) * (adS a o x b * (W * b)) = ((Int.gcd (adN a o x b) (adM o x b) : Nat) : Int) * ((X * b + x * W) * adO a o x b) := by
    rw [← Int.mul_assoc, n1, e1, ← n2]
    grind
  exact Int.eq_of_mul_eq_mul_left (by omega) e3
/-- a reduced fraction and another of the same worth -/
theorem red_k {s o X W : Int} (ho : 1 ≤ o) (hW : 1 ≤ W) (hg : Int.gcd s o = 1) (h : s * W = X * o) : ∃ k : Int, 1 ≤ k ∧ X = s * k ∧ W = o * k := by
  have hd : o.natAbs ∣ W.natAbs := by
    have h1 : o.natAbs ∣ s.natAbs * W.natAbs := by
      rw [← Int.natAbs_mul, h, Int.natAbs_mul]
      exact Nat.dvd_mul_left _ _
    have h2 : Nat.Coprime o.natAbs s.natAbs := by
      have : Nat.gcd s.natAbs o.natAbs = 1 := hg
      rw [Nat.gcd_comm] at this
      exact this
    exact h2.dvd_of_dvd_mul_left h1
  obtain ⟨k, hk⟩ := hd
  have e : W = o * (k : Int) := by
    have e1 : (W.natAbs : Int) = ((o.natAbs * k : Nat) : Int) := by rw [hk]
    rw [Int.natCast_mul] at e1
    have e2 : (W.natAbs : Int) = W := by omega
    have e3 : (o.natAbs : Int) = o := by omega
    rw [e2, e3] at e1
    exact e1
  have hk1 : 1 ≤ (k : Int) := by
    by_cases z : k = 0
    · rw [z] at e
      simp at e
      omega
    · omega
  refine ⟨k, hk1, ?_, e⟩
  rw [e] at h
  have h3 : o * (s * k) = o * X := by
    rw [Int.mul_comm o X, ← h]
    grind
  exact (Int.eq_of_mul_eq_mul_left (by omega) h3).symm
theorem red_low {s o X W : Int} (ho : 1 ≤ o) (hW : 1 ≤ W) (hg : Int.gcd s o = 1) (h : s * W = X * o) (k : Int) : lowG X W k = if k = 0 then s else o := by
  obtain ⟨j, j1, rfl, rfl⟩ := red_k ho hW hg h
  have e : ((Int.gcd (s * j) (o * j) : Nat) : Int) = j := by
    have e1 : Int.gcd (s * j) (o * j) = Nat.gcd (s.natAbs * j.natAbs) (o.natAbs * j.natAbs) := by
      show Nat.gcd (s * j).natAbs (o * j).natAbs = _
      rw [Int.natAbs_mul, Int.natAbs_mul]
    have e2 : Nat.gcd s.natAbs o.natAbs = 1 := hg
    rw [e1, Nat.gcd_mul_right, e2, Nat.one_mul]
    omega
  unfold lowG
  rw [e]
  by_cases hk : k = 0
  · rw [if_pos hk, if_pos hk]
    exact Int.mul_tdiv_cancel _ (by omega)
  · rw [if_neg hk, if_neg hk]
    exact Int.mul_tdiv_cancel _ (by omega)
theorem red_div {s o X W : Int} (ho : 1 ≤ o) (hW : 1 ≤ W) (hg : Int.gcd s o = 1) (h : s * W = X * o) : s.tdiv o = X.tdiv W := by
  obtain ⟨j, j1, rfl, rfl⟩ := red_k ho hW hg h
  rw [Int.mul_comm s j, Int.mul_comm o j]
  exact (Int.mul_tdiv_mul_of_pos s o (by omega)).symm
theorem red_bd {s o X W : Int} (ho : 1 ≤ o) (hW : 1 ≤ W) (hg : Int.gcd s o = 1) (h : s * W = X * o) {N : Int} (hX : q_bd X N) : q_bd s N ∧ o ≤ W := by
  obtain ⟨j, j1, rfl, rfl⟩ := red_k ho hW hg h
  unfold q_bd at *
  refine ⟨?_, ?_⟩
  · by_cases z : 0 ≤ s
    · have := Int.mul_le_mul_of_nonneg_left j1 z
      omega
    · have := Int.mul_le_mul_of_nonneg_left j1 (show 0 ≤ -s by omega)
      rw [Int.neg_mul, Int.neg_mul] at this
      omega
  · have := Int.mul_le_mul_of_nonneg_left j1 (show 0 ≤ o by omega)
    omega
theorem red_sg {s o X W : Int} (ho : 1 ≤ o) (hW : 1 ≤ W) (hg : Int.gcd s o = 1) (h : s * W = X * o) : (s = 0 ↔ X = 0) ∧ (0 < s ↔ 0 < X) := by
  obtain ⟨j, j1, rfl, rfl⟩ := red_k ho hW hg h
  refine ⟨⟨fun z => by rw [z, Int.zero_mul], fun z => ?_⟩, ⟨fun z => Int.mul_pos z (by omega), fun z => ?_⟩⟩
  · rcases Int.mul_eq_zero.mp z with y | y
    · exact y
    · omega
  · by_cases y : 0 < s
    · exact y
    · have := Int.mul_nonpos_of_nonpos_of_nonneg (show s ≤ 0 by omega) (show 0 ≤ j by omega)
      omega
