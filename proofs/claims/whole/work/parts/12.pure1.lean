/-- the curve of three points: the numbers of Curve.lay -/
def lB (f : Int → Int) (k : Int) : Int := (f (k + 2) - f k) * (f (k + 5) - f (k + 1)) - (f (k + 3) - f (k + 1)) * (f (k + 4) - f k)
def lA (f : Int → Int) (k : Int) : Int := 2 * lB f k * f k + (f (k + 5) - f (k + 1)) * ((f (k + 2) - f k) * (f (k + 2) - f k) + (f (k + 3) - f (k + 1)) * (f (k + 3) - f (k + 1))) - (f (k + 3) - f (k + 1)) * ((f (k + 4) - f k) * (f (k + 4) - f k) + (f (k + 5) - f (k + 1)) * (f (k + 5) - f (k + 1)))
def lU (f : Int → Int) (k : Int) : Int := 2 * lB f k * f (k + 1) + (f (k + 2) - f k) * ((f (k + 4) - f k) * (f (k + 4) - f k) + (f (k + 5) - f (k + 1)) * (f (k + 5) - f (k + 1))) - (f (k + 4) - f k) * ((f (k + 2) - f k) * (f (k + 2) - f k) + (f (k + 3) - f (k + 1)) * (f (k + 3) - f (k + 1)))
def lO (f : Int → Int) (k : Int) : Int := lA f k * f k + lU f k * f (k + 1) - lB f k * (f k * f k + f (k + 1) * f (k + 1))
def lG (f : Int → Int) (k : Int) : Prop := q_bd (f k) 20 ∧ q_bd (f (k + 1)) 20 ∧ q_bd (f (k + 2)) 20 ∧ q_bd (f (k + 3)) 20 ∧ q_bd (f (k + 4)) 20 ∧ q_bd (f (k + 5)) 20
theorem lB_bd {f : Int → Int} {k : Int} (h : lG f k) : q_bd (lB f k) 3200 := by
  obtain ⟨h0, h1, h2, h3, h4, h5⟩ := h
  exact bd_sub (bd_mul (bd_sub h2 h0 (C := 40) (by decide)) (bd_sub h5 h1 (C := 40) (by decide)) (C := 1600) (by decide)) (bd_mul (bd_sub h3 h1 (C := 40) (by decide)) (bd_sub h4 h0 (C := 40) (by decide)) (C := 1600) (by decide)) (by decide)
theorem lS_bd {x y : Int} (hx : q_bd x 40) (hy : q_bd y 40) : q_bd (x * x + y * y) 3200 := bd_add (bd_mul hx hx (C := 1600) (by decide)) (bd_mul hy hy (C := 1600) (by decide)) (by decide)
theorem lA_bd {f : Int → Int} {k : Int} (h : lG f k) : q_bd (lA f k) 384000 := by
  have hB := lB_bd h
  obtain ⟨h0, h1, h2, h3, h4, h5⟩ := h
  have c0 := bd_sub h2 h0 (C := 40) (by decide)
  have c1 := bd_sub h3 h1 (C := 40) (by decide)
  have c2 := bd_sub h4 h0 (C := 40) (by decide)
  have c3 := bd_sub h5 h1 (C := 40) (by decide)
  exact bd_sub (bd_add (bd_mul (bd_mul (bd_c 2 2 (by decide)) hB (C := 6400) (by decide)) h0 (C := 128000) (by decide)) (bd_mul c3 (lS_bd c0 c1) (C := 128000) (by decide)) (C := 256000) (by decide)) (bd_mul c1 (lS_bd c2 c3) (C := 128000) (by decide)) (by decide)
theorem lU_bd {f : Int → Int} {k : Int} (h : lG f k) : q_bd (lU f k) 384000 := by
  have hB := lB_bd h
  obtain ⟨h0, h1, h2, h3, h4, h5⟩ := h
  have c0 := bd_sub h2 h0 (C := 40) (by decide)
  have c1 := bd_sub h3 h1 (C := 40) (by decide)
  have c2 := bd_sub h4 h0 (C := 40) (by decide)
  have c3 := bd_sub h5 h1 (C := 40) (by decide)
  exact bd_sub (bd_add (bd_mul (bd_mul (bd_c 2 2 (by decide)) hB (C := 6400) (by decide)) h1 (C := 128000) (by decide)) (bd_mul c0 (lS_bd c2 c3) (C := 128000) (by decide)) (C := 256000) (by decide)) (bd_mul c2 (lS_bd c0 c1) (C := 128000) (by decide)) (by decide)
theorem lO_bd {f : Int → Int} {k : Int} (h : lG f k) : q_bd (lO f k) 17920000 := by
  have hB := lB_bd h
  have hA := lA_bd h
  have hU := lU_bd h
  obtain ⟨h0, h1, h2, h3, h4, h5⟩ := h
  exact bd_sub (bd_add (bd_mul hA h0 (C := 7680000) (by decide)) (bd_mul hU h1 (C := 7680000) (by decide)) (C := 15360000) (by decide)) (bd_mul hB (bd_add (bd_mul h0 h0 (C := 400) (by decide)) (bd_mul h1 h1 (C := 400) (by decide)) (C := 800) (by decide)) (C := 2560000) (by decide)) (by decide)
def q_lay (σ : q_S) (c a b d e : Int) : q_S := q_up (q_up (q_up (q_up σ c 0 a) c 1 b) c 2 d) c 3 e
/-- Euclid, step by step -/
def euc : Nat → Int → Int → Int
  | 0, a, _ => a
  | n + 1, a, b => if b = 0 then a else euc n b (a.tmod b)
theorem euc_gcd : ∀ (n : Nat) (k : Nat) (a b : Nat), b < 2 ^ n → 2 * n + 1 ≤ k → euc k a b = Nat.gcd a b := by
  intro n
  induction n with
  | zero =>
    intro k a b hb hk
    have : b = 0 := by omega
    subst this
    match k, hk with
    | k + 1, _ => simp [euc]
  | succ n ih =>
    intro k a b hb hk
    match k, hk with
    | k + 2, hk =>
      by_cases h0 : b = 0
      · subst h0; simp [euc]
      · have e1 : (b : Int) ≠ 0 := by omega
        have m1 : (a : Int).tmod b = ((a % b : Nat) : Int) := by rw [Int.tmod_eq_emod_of_nonneg (by omega)]; rfl
        rw [euc, if_neg e1, m1]
        by_cases h1 : a % b = 0
        · have g : Nat.gcd a b = b := by rw [Nat.gcd_comm, Nat.gcd_rec, h1, Nat.gcd_zero_left]
          rw [h1, euc, g]
          exact if_pos rfl
        · have e2 : ((a % b : Nat) : Int) ≠ 0 := by omega
          have m2 : (b : Int).tmod ((a % b : Nat) : Int) = ((b % (a % b) : Nat) : Int) := by rw [Int.tmod_eq_emod_of_nonneg (by omega)]; rfl
          rw [euc, if_neg e2, m2]
          have hlt : a % b < b := Nat.mod_lt _ (by omega)
          have h2 : b % (a % b) < a % b := Nat.mod_lt _ (by omega)
          have h3 : b % (a % b) + (a % b) ≤ b := by
            have h4 := Nat.mod_add_div b (a % b)
            have h5 : 1 ≤ b / (a % b) := (Nat.one_le_div_iff (by omega)).mpr (by omega)
            have h6 : a % b * 1 ≤ a % b * (b / (a % b)) := Nat.mul_le_mul_left _ h5
            omega
          have h7 : 2 ^ (n + 1) = 2 * 2 ^ n := by rw [Nat.pow_succ]; omega
          rw [ih k (a % b) (b % (a % b)) (by omega) (by omega)]
          have g : Nat.gcd a b = Nat.gcd (a % b) (b % (a % b)) := by rw [Nat.gcd_comm a b, Nat.gcd_rec b a, Nat.gcd_rec (a % b) b, Nat.gcd_comm]
          rw [g]
/-- the root, bit by bit -/
def rtl : Nat → Int → Int → Int
  | 0, r, _ => r
  | n + 1, r, s => rtl n (if (r + 2 ^ n) * (r + 2 ^ n) ≤ s then r + 2 ^ n else r) s
theorem Lshl_1 {n : Nat} (h : n < 31) : q_Lshl 1 n = 2 ^ n := by
  have h0 : ∀ k : Fin 31, q_Lshl 1 (k.val : Int) = 2 ^ k.val := by decide +kernel
  exact h0 ⟨n, h⟩
theorem rtl_ok : ∀ (n : Nat) (r s : Int), 0 ≤ r → r * r ≤ s → s < (r + 2 ^ n) * (r + 2 ^ n) → 0 ≤ rtl n r s ∧ rtl n r s * rtl n r s ≤ s ∧ s < (rtl n r s + 1) * (rtl n r s + 1) := by
  intro n
  induction n with
  | zero => intro r s h0 h1 h2; simpa [rtl] using ⟨h0, h1, h2⟩
  | succ n ih =>
    intro r s h0 h1 h2
    rw [rtl]
    have hp : (0 : Int) < 2 ^ n := Int.pow_pos (by decide)
    split
    · rename_i h
      refine ih _ s (by omega) h ?_
      rw [show r + 2 ^ n + 2 ^ n = r + 2 ^ (n + 1) by rw [Int.pow_succ]; omega]
      exact h2
    · rename_i h
      exact ih r s h0 h1 (by omega)
