/-! the reference's cells: an overlay of scratch; a picture out of its row; the reference's circle is the class's -/
def scM (c x : Int) : Bool := (decide (c = 0) && ((decide (10 ≤ x) && decide (x ≤ 14)) || ((decide (16 ≤ x) && decide (x ≤ 20)) || (decide (x = 23) || (decide (x = 26) || (decide (29 ≤ x) && decide (x ≤ 30))))))) || ((decide (9 ≤ c) && decide (c ≤ 13)) || ((decide (15 ≤ c) && decide (c ≤ 16)) || decide (c = 20)))
def ovM (σ s : q_S) : q_S := fun c x => cond (scM c x) (s c x) (σ c x)
section OM
variable {σ s : q_S} {c x v : Int} {g : Int → Int}
theorem om_s (h : scM c x = true) : ovM σ s c x = s c x := by simp [ovM, h]
theorem om_n (h : scM c x = false) : ovM σ s c x = σ c x := by simp [ovM, h]
theorem om_up (h : scM c x = true) : q_up (ovM σ s) c x v = ovM σ (q_up s c x v) := by
  funext c' x'
  unfold q_up ovM
  by_cases e : c' = c ∧ x' = x
  · obtain ⟨rfl, rfl⟩ := e
    simp [h]
  · simp [e]
theorem om_upn (h : scM c x = false) : q_up (ovM σ s) c x v = ovM (q_up σ c x v) s := by
  funext c' x'
  unfold q_up ovM
  by_cases e : c' = c ∧ x' = x
  · obtain ⟨rfl, rfl⟩ := e
    simp [h]
  · simp [e]
theorem om_row (h : ∀ x, scM c x = true) : q_row (ovM σ s) c g = ovM σ (q_row s c g) := by
  funext c' x'
  unfold q_row ovM
  by_cases e : c' = c
  · subst e
    simp [h]
  · simp [e]
theorem om_rown (h : ∀ x, scM c x = false) : q_row (ovM σ s) c g = ovM (q_row σ c g) s := by
  funext c' x'
  unfold q_row ovM
  by_cases e : c' = c
  · subst e
    simp [h]
  · simp [e]
theorem om_id : ovM σ σ = σ := by
  funext c x
  unfold ovM
  cases scM c x <;> rfl
end OM
def pM (n : Int → Int) : q_S := fun c j => if c = 1 then n j else if c = 2 then n (3 + j) else if c = 3 then (if n (51 + j) = -1 then 12 else n (51 + j)) else if c = 4 then n (59 + 4 * j + 0) else if c = 5 then n (59 + 4 * j + 1) else if c = 6 then n (59 + 4 * j + 2) else if c = 7 then n (59 + 4 * j + 3) else 0
def IM (σ : q_S) : Prop := IPs (pM (σ 1)) ∧ (∀ t : Int, 0 ≤ t → t < σ 1 1 → -1 ≤ σ 1 (51 + t) ∧ σ 1 (51 + t) ≤ 11) ∧ (∀ k : Int, 0 ≤ k → k < 12 → (σ 2 k = num k 0 + 1 ∧ σ 3 k = num k 1 + 1 ∧ σ 4 k = num k 2 + 1) ∧ σ 5 k = num k 3 + 1 ∧ σ 6 k = mss k ∧ σ 7 k = q_let.getD k.toNat 0) ∧ (0 ≤ σ 0 9 ∧ σ 0 9 ≤ 8) ∧ (0 ≤ σ 0 28 ∧ σ 0 28 ≤ 120) ∧ (∀ k : Int, 0 ≤ k → k < σ 0 28 → 1 ≤ σ 14 k ∧ σ 14 k ≤ 127) ∧ (0 ≤ σ 0 34 ∧ σ 0 34 ≤ 6) ∧ (∀ l : Int, 0 ≤ l → l < 3 → -1 ≤ σ 18 l ∧ σ 18 l ≤ 24)
section IMf
variable {σ : q_S}
theorem IM.fd (h : IM σ) : 1 ≤ σ 1 0 ∧ σ 1 0 ≤ 9 := h.1.1
theorem IM.nt (h : IM σ) : 0 ≤ σ 1 1 ∧ σ 1 1 ≤ 8 := h.1.2.1
theorem IM.nv (h : IM σ) : 0 ≤ σ 1 2 ∧ σ 1 2 ≤ 4 := h.1.2.2.1
theorem IM.pt (h : IM σ) {t : Int} (ht : 0 ≤ t ∧ t < σ 1 1) : lG (pM (σ 1) 2) (6 * t) := (h.1.2.2.2.1 t ht.1 ht.2).1
theorem IM.un (h : IM σ) {t : Int} (ht : 0 ≤ t ∧ t < σ 1 1) : unl (pM (σ 1) 2) (6 * t) := (h.1.2.2.2.1 t ht.1 ht.2).2
theorem IM.kd (h : IM σ) {t : Int} (ht : 0 ≤ t ∧ t < σ 1 1) : 0 ≤ pM (σ 1) 3 t ∧ pM (σ 1) 3 t ≤ 12 := h.1.2.2.2.2.1 t ht.1 ht.2
theorem IM.tie (h : IM σ) {v : Int} (hv : 0 ≤ v ∧ v < σ 1 2) : q_bd (pM (σ 1) 4 v) 20 ∧ q_bd (pM (σ 1) 5 v) 20 ∧ tieok (σ 1 1) (pM (σ 1) 6 v) (pM (σ 1) 7 v) := h.1.2.2.2.2.2 v hv.1 hv.2
theorem IM.fq (h : IM σ) : q_bd (σ 1 0) 9 := by
  have := h.fd
  unfold q_bd
  omega
end IMf
def mXd (f : Int → Int) (k : Int) : Int := (f (k + 5) - f (k + 1)) * ((f (k + 2) - f k) * (f (k + 2) - f k) + (f (k + 3) - f (k + 1)) * (f (k + 3) - f (k + 1))) - (f (k + 3) - f (k + 1)) * ((f (k + 4) - f k) * (f (k + 4) - f k) + (f (k + 5) - f (k + 1)) * (f (k + 5) - f (k + 1)))
def mYd (f : Int → Int) (k : Int) : Int := (f (k + 2) - f k) * ((f (k + 4) - f k) * (f (k + 4) - f k) + (f (k + 5) - f (k + 1)) * (f (k + 5) - f (k + 1))) - (f (k + 4) - f k) * ((f (k + 2) - f k) * (f (k + 2) - f k) + (f (k + 3) - f (k + 1)) * (f (k + 3) - f (k + 1)))
theorem lA_m {f : Int → Int} {k : Int} : lA f k = 2 * lB f k * f k + mXd f k := by
  unfold lA mXd
  rw [Int.add_sub_assoc]
theorem lU_m {f : Int → Int} {k : Int} : lU f k = 2 * lB f k * f (k + 1) + mYd f k := by
  unfold lU mYd
  rw [Int.add_sub_assoc]
theorem on_poly (B a b X Y x y : Int) : B * (x * x + y * y) - (2 * B * a + X) * x - (2 * B * b + Y) * y + ((2 * B * a + X) * a + (2 * B * b + Y) * b - B * (a * a + b * b)) = B * ((x - a) * (x - a) + (y - b) * (y - b)) - ((x - a) * X + (y - b) * Y) := by
  grind
theorem onb_m {f : Int → Int} {t x y : Int} : onb f t x y = true ↔ lB f (6 * t) * ((x - f (6 * t)) * (x - f (6 * t)) + (y - f (6 * t + 1)) * (y - f (6 * t + 1))) = (x - f (6 * t)) * mXd f (6 * t) + (y - f (6 * t + 1)) * mYd f (6 * t) := by
  unfold onb lO
  rw [decide_eq_true_eq, lA_m, lU_m, on_poly]
  omega
theorem sgn_abs (x : Int) : sgn x * 2 * x = 2 * (if 0 ≤ x then x else -x) := by
  unfold sgn
  by_cases h : 0 < x
  · rw [if_pos h, if_pos (by omega)]
    omega
  · rw [if_neg h]
    by_cases h2 : x < 0
    · rw [if_pos h2, if_neg (by omega)]
      omega
    · rw [if_neg h2, if_pos (by omega)]
      omega
theorem sgn_sq {x : Int} (h : x ≠ 0) : sgn x = 1 ∧ (if 0 ≤ x then x else -x) = x ∨ sgn x = -1 ∧ (if 0 ≤ x then x else -x) = -x := by
  unfold sgn
  by_cases h1 : 0 < x
  · rw [if_pos h1, if_pos (by omega)]
    exact Or.inl ⟨rfl, rfl⟩
  · rw [if_neg h1, if_pos (by omega), if_neg (by omega)]
    exact Or.inr ⟨rfl, rfl⟩
theorem isOn_c {f : Int → Int} {t x y : Int} (hB : lB f (6 * t) ≠ 0) : un f t * ((x - f (6 * t)) * (x - f (6 * t)) + (y - f (6 * t + 1)) * (y - f (6 * t + 1))) = 2 * ((x - f (6 * t)) * (sgn (lB f (6 * t)) * mXd f (6 * t)) + (y - f (6 * t + 1)) * (sgn (lB f (6 * t)) * mYd f (6 * t))) ↔ onb f t x y = true := by
  rw [onb_m]
  unfold un
  generalize lB f (6 * t) = B at *
  generalize x - f (6 * t) = p at *
  generalize y - f (6 * t + 1) = q at *
  generalize mXd f (6 * t) = X at *
  generalize mYd f (6 * t) = Y at *
  rcases sgn_sq hB with ⟨h1, h2⟩ | ⟨h1, h2⟩
  · rw [h1, h2, Int.one_mul, Int.one_mul, Int.mul_assoc]
    omega
  · rw [h1, h2]
    have e1 : 2 * -B * (p * p + q * q) = -(2 * (B * (p * p + q * q))) := by grind
    have e2 : 2 * (p * (-1 * X) + q * (-1 * Y)) = -(2 * (p * X + q * Y)) := by grind
    rw [e1, e2]
    omega
theorem para {v1 v2 u1 u2 w1 w2 : Int} (hv : ¬ (v1 = 0 ∧ v2 = 0)) (h1 : v1 * u2 = v2 * u1) (h2 : v1 * w2 = v2 * w1) : u1 * w2 = u2 * w1 := by
  have e1 : v1 * (u1 * w2 - u2 * w1) = 0 := by
    have : v1 * (u1 * w2 - u2 * w1) = u1 * (v1 * w2) - w1 * (v1 * u2) := by grind
    rw [this, h1, h2]
    grind
  have e2 : v2 * (u1 * w2 - u2 * w1) = 0 := by
    have : v2 * (u1 * w2 - u2 * w1) = w2 * (v2 * u1) - u2 * (v2 * w1) := by grind
    rw [this, ← h1, ← h2]
    grind
  by_cases hz : u1 * w2 - u2 * w1 = 0
  · omega
  · have z1 := (Int.mul_eq_zero.mp e1).resolve_right hz
    have z2 := (Int.mul_eq_zero.mp e2).resolve_right hz
    exact absurd ⟨z1, z2⟩ hv
theorem sq_z {a b : Int} (h : a * a + b * b = 0) : a = 0 ∧ b = 0 := by
  have h1 := sq0 a
  have h2 := sq0 b
  have h3 : a * a = 0 := by omega
  have h4 : b * b = 0 := by omega
  exact ⟨by rcases Int.mul_eq_zero.mp h3 with z | z <;> exact z, by rcases Int.mul_eq_zero.mp h4 with z | z <;> exact z⟩
theorem dot_nz {a b c d : Int} (hd : a * d = b * c) (h1 : ¬ (a = 0 ∧ b = 0)) (h2 : ¬ (c = 0 ∧ d = 0)) : a * c + b * d ≠ 0 := by
  intro z
  have e : (a * a + b * b) * (c * c + d * d) = (a * c + b * d) * (a * c + b * d) + (a * d - b * c) * (a * d - b * c) := by grind
  rw [z, hd, Int.sub_self, Int.zero_mul, Int.add_zero] at e
  rcases Int.mul_eq_zero.mp e with y | y
  · exact h1 (sq_z y)
  · exact h2 (sq_z y)
theorem par_1 {a b c d p q : Int} (hd : a * d = b * c) (h1 : ¬ (a = 0 ∧ b = 0)) (h : a * q = b * p) : p * (b - d) - q * (a - c) = 0 := by
  have := para h1 h hd
  rw [Int.mul_sub, Int.mul_sub, Int.mul_comm p b, Int.mul_comm q a]
  omega
theorem par_2 {a b c d p q : Int} (hd : a * d = b * c) (h3 : ¬ (a = c ∧ b = d)) (h : p * (b - d) - q * (a - c) = 0) : a * q = b * p := by
  have h4 : (a - c) * q = (b - d) * p := by
    rw [Int.mul_comm (a - c) q, Int.mul_comm (b - d) p]
    omega
  have h5 : (a - c) * b = (b - d) * a := by
    rw [Int.sub_mul, Int.sub_mul, Int.mul_comm c b, Int.mul_comm d a, Int.mul_comm b a]
    omega
  have := para (v1 := a - c) (v2 := b - d) (by omega) h4 h5
  rw [Int.mul_comm a q, Int.mul_comm b p]
  omega
theorem isOn_s {f : Int → Int} {t x y : Int} (hB : lB f (6 * t) = 0) (hu : unl f (6 * t)) : (f (6 * t + 2) - f (6 * t)) * (y - f (6 * t + 1)) = (f (6 * t + 3) - f (6 * t + 1)) * (x - f (6 * t)) ↔ onb f t x y = true := by
  rw [onb_m, hB]
  unfold lB at hB
  unfold mXd mYd
  obtain ⟨u1, u2, u3⟩ := hu
  have a1 : ¬ (f (6 * t + 2) - f (6 * t) = 0 ∧ f (6 * t + 3) - f (6 * t + 1) = 0) := by omega
  have a2 : ¬ (f (6 * t + 4) - f (6 * t) = 0 ∧ f (6 * t + 5) - f (6 * t + 1) = 0) := by omega
  have a3 : ¬ (f (6 * t + 2) - f (6 * t) = f (6 * t + 4) - f (6 * t) ∧ f (6 * t + 3) - f (6 * t + 1) = f (6 * t + 5) - f (6 * t + 1)) := by omega
  generalize x - f (6 * t) = p at *
  generalize y - f (6 * t + 1) = q at *
  generalize f (6 * t + 2) - f (6 * t) = a at *
  generalize f (6 * t + 3) - f (6 * t + 1) = b at *
  generalize f (6 * t + 4) - f (6 * t) = c at *
  generalize f (6 * t + 5) - f (6 * t + 1) = d at *
  rw [Int.zero_mul]
  have hd : a * d = b * c := by omega
  have e : p * (d * (a * a + b * b) - b * (c * c + d * d)) + q * (a * (c * c + d * d) - c * (a * a + b * b)) = (a * c + b * d) * (p * (b - d) - q * (a - c)) := by
    grind
  rw [e]
  have hdot := dot_nz hd a1 a2
  constructor
  · intro h
    rw [par_1 hd a1 h, Int.mul_zero]
  · intro h
    rcases Int.mul_eq_zero.mp h.symm with z | z
    · exact absurd z hdot
    · exact par_2 hd a3 z
theorem pX_m {f : Int → Int} {F t y : Int} (hB : lB f (6 * t) ≠ 0) : F * sgn (lB f (6 * t)) * (sgn (lB f (6 * t)) * mYd f (6 * t) - (y - f (6 * t + 1)) * un f t) = pX f F y t := by
  unfold pX un
  rw [lU_m]
  generalize lB f (6 * t) = B at *
  generalize mYd f (6 * t) = Y at *
  generalize f (6 * t + 1) = b at *
  rcases sgn_sq hB with ⟨h1, h2⟩ | ⟨h1, h2⟩ <;> rw [h1, h2] <;> grind
theorem pY_m {f : Int → Int} {F t x : Int} (hB : lB f (6 * t) ≠ 0) : F * sgn (lB f (6 * t)) * ((x - f (6 * t)) * un f t - sgn (lB f (6 * t)) * mXd f (6 * t)) = pY f F x t := by
  unfold pY un
  rw [lA_m]
  generalize lB f (6 * t) = B at *
  generalize mXd f (6 * t) = X at *
  generalize f (6 * t) = a at *
  rcases sgn_sq hB with ⟨h1, h2⟩ | ⟨h1, h2⟩ <;> rw [h1, h2] <;> grind
