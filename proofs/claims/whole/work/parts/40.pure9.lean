/-! what a call makes of a picture is a picture -/
def IPs (τ : q_S) : Prop := IPp (τ 1 0) (τ 1 1) (τ 1 2) (τ 2) (τ 3) (τ 4) (τ 5) (τ 6) (τ 7)
theorem tie_mono {nt a b : Int} (hn : 0 ≤ nt ∧ nt < 8) (h : tieok nt a b) : tieok (nt + 1) a b := by
  obtain ⟨h1, h2, h3, h4, h5⟩ := h
  refine ⟨by omega, h2, ?_, h4, h5⟩
  have e : q_shl 1 nt ≤ q_shl 1 (nt + 1) := by
    rcases (by omega : nt = 0 ∨ nt = 1 ∨ nt = 2 ∨ nt = 3 ∨ nt = 4 ∨ nt = 5 ∨ nt = 6 ∨ nt = 7) with rfl | rfl | rfl | rfl | rfl | rfl | rfl | rfl <;> decide
  omega
theorem tie_less {nt a b : Int} (hn : 1 ≤ nt ∧ nt ≤ 8) (h : tieok nt a b) (ha : a ≠ nt - 1) (hb : ¬ q_and (q_shr b (nt - 1)) 1 = 1) : tieok (nt - 1) a b := by
  obtain ⟨h1, h2, h3, h4, h5⟩ := h
  have h6 := (shl_1 (n := nt) (by omega)).2
  have hb2 := hb
  rw [show (q_and (q_shr b (nt - 1)) 1 = 1) = bit b (nt - 1) from rfl, bit_iff ⟨by omega, by omega⟩ ⟨by omega, by omega⟩] at hb2
  refine ⟨by omega, h2, ?_, h4, h5⟩
  rcases (by omega : nt = 1 ∨ nt = 2 ∨ nt = 3 ∨ nt = 4 ∨ nt = 5 ∨ nt = 6 ∨ nt = 7 ∨ nt = 8) with rfl | rfl | rfl | rfl | rfl | rfl | rfl | rfl
  · rw [(shl_1 (n := 1) (by decide)).1] at h3
    rw [(shl_1 (n := 1 - 1) (by decide)).1]
    have e1 : (2 : Int) ^ (Int.toNat 1) = 2 := by decide
    have e2 : (2 : Int) ^ (Int.toNat (1 - 1)) = 1 := by decide
    rw [e1] at h3
    rw [e2] at hb2 ⊢
    omega
  · rw [(shl_1 (n := 2) (by decide)).1] at h3
    rw [(shl_1 (n := 2 - 1) (by decide)).1]
    have e1 : (2 : Int) ^ (Int.toNat 2) = 4 := by decide
    have e2 : (2 : Int) ^ (Int.toNat (2 - 1)) = 2 := by decide
    rw [e1] at h3
    rw [e2] at hb2 ⊢
    omega
  · rw [(shl_1 (n := 3) (by decide)).1] at h3
    rw [(shl_1 (n := 3 - 1) (by decide)).1]
    have e1 : (2 : Int) ^ (Int.toNat 3) = 8 := by decide
    have e2 : (2 : Int) ^ (Int.toNat (3 - 1)) = 4 := by decide
    rw [e1] at h3
    rw [e2] at hb2 ⊢
    omega
  · rw [(shl_1 (n := 4) (by decide)).1] at h3
    rw [(shl_1 (n := 4 - 1) (by decide)).1]
    have e1 : (2 : Int) ^ (Int.toNat 4) = 16 := by decide
    have e2 : (2 : Int) ^ (Int.toNat (4 - 1)) = 8 := by decide
    rw [e1] at h3
    rw [e2] at hb2 ⊢
    omega
  · rw [(shl_1 (n := 5) (by decide)).1] at h3
    rw [(shl_1 (n := 5 - 1) (by decide)).1]
    have e1 : (2 : Int) ^ (Int.toNat 5) = 32 := by decide
    have e2 : (2 : Int) ^ (Int.toNat (5 - 1)) = 16 := by decide
    rw [e1] at h3
    rw [e2] at hb2 ⊢
    omega
  · rw [(shl_1 (n := 6) (by decide)).1] at h3
    rw [(shl_1 (n := 6 - 1) (by decide)).1]
    have e1 : (2 : Int) ^ (Int.toNat 6) = 64 := by decide
    have e2 : (2 : Int) ^ (Int.toNat (6 - 1)) = 32 := by decide
    rw [e1] at h3
    rw [e2] at hb2 ⊢
    omega
  · rw [(shl_1 (n := 7) (by decide)).1] at h3
    rw [(shl_1 (n := 7 - 1) (by decide)).1]
    have e1 : (2 : Int) ^ (Int.toNat 7) = 128 := by decide
    have e2 : (2 : Int) ^ (Int.toNat (7 - 1)) = 64 := by decide
    rw [e1] at h3
    rw [e2] at hb2 ⊢
    omega
  · rw [(shl_1 (n := 8) (by decide)).1] at h3
    rw [(shl_1 (n := 8 - 1) (by decide)).1]
    have e1 : (2 : Int) ^ (Int.toNat 8) = 256 := by decide
    have e2 : (2 : Int) ^ (Int.toNat (8 - 1)) = 128 := by decide
    rw [e1] at h3
    rw [e2] at hb2 ⊢
    omega
theorem rmB_at {a o : Int → Int} {t : Int} : ∀ (n : Nat) (i : Int), ¬ rmB a o t n i = true → ∀ j, i ≤ j → j < i + n → a j ≠ t ∧ ¬ q_and (q_shr (o j) t) 1 = 1 := by
  intro n
  induction n with
  | zero => intro i _ j h1 h2; omega
  | succ n ih =>
    intro i h j h1 h2
    rw [rmB] at h
    by_cases e : a i = t ∨ q_and (q_shr (o i) t) 1 = 1
    · rw [if_pos e] at h
      exact absurd rfl h
    · rw [if_neg e] at h
      by_cases e2 : j = i
      · rw [e2]
        exact ⟨fun z => e (Or.inl z), fun z => e (Or.inr z)⟩
      · exact ih (i + 1) h j (by omega) (by omega)
theorem IPs_oF {x : Int} {σ : q_S} (h : IPs σ) : IPs (oF x σ).2 := by
  unfold oF
  by_cases hx : 1 ≤ x ∧ x ≤ 9
  · rw [if_pos hx]
    obtain ⟨h1, h2⟩ := h
    exact ⟨hx, h2⟩
  · rw [if_neg hx]
    exact h
theorem IPs_oT {ax ay bx by' cx cy : Int} {σ : q_S} (h : IPs σ) : IPs (oT ax ay bx by' cx cy σ).2 := by
  unfold oT
  by_cases hg : ¬ (((-20 ≤ ax ∧ ax ≤ 20) ∧ -20 ≤ ay ∧ ay ≤ 20) ∧ ((-20 ≤ bx ∧ bx ≤ 20) ∧ -20 ≤ by' ∧ by' ≤ 20) ∧ ((-20 ≤ cx ∧ cx ≤ 20) ∧ -20 ≤ cy ∧ cy ≤ 20))
  · rw [if_pos hg]
    exact h
  · rw [if_neg hg]
    by_cases ha : ((ax = bx ∧ ay = by' ∨ ax = cx ∧ ay = cy) ∨ bx = cx ∧ by' = cy)
    · rw [if_pos ha]
      exact h
    · rw [if_neg ha]
      by_cases h8 : σ 1 1 = 8
      · rw [if_pos h8]
        exact h
      · rw [if_neg h8]
        obtain ⟨h1, h2, h3, h4, h5, h6⟩ := h
        have e1 : newT ax ay bx by' cx cy σ 1 1 = σ 1 1 + 1 := by unfold newT; rw [q_up_s]
        have e2 : ∀ j, newT ax ay bx by' cx cy σ 2 j = if j = 6 * σ 1 1 + 5 then cy else if j = 6 * σ 1 1 + 4 then cx else if j = 6 * σ 1 1 + 3 then by' else if j = 6 * σ 1 1 + 2 then bx else if j = 6 * σ 1 1 + 1 then ay else if j = 6 * σ 1 1 then ax else σ 2 j := by
          intro j
          unfold newT
          rw [q_up_o (by decide), q_up_o (by decide)]
          simp only [q_up, true_and]
        have e3 : ∀ j, newT ax ay bx by' cx cy σ 3 j = if j = σ 1 1 then 12 else σ 3 j := by
          intro j
          unfold newT
          rw [q_up_o (by decide)]
          simp [q_up]
        unfold IPs
        dsimp only
        rw [e1]
        refine ⟨h1, by show 0 ≤ σ 1 1 + 1 ∧ _; omega, h3, fun t t0 t1 => ?_, fun t t0 t1 => ?_, fun v v0 v1 => ?_⟩
        · by_cases e : t = σ 1 1
          · subst e
            unfold lG unl q_bd
            simp only [e2]
            have a1 : ¬ (6 * σ 1 1 = 6 * σ 1 1 + 5) := by omega
            have a2 : ¬ (6 * σ 1 1 = 6 * σ 1 1 + 4) := by omega
            have a3 : ¬ (6 * σ 1 1 = 6 * σ 1 1 + 3) := by omega
            have a4 : ¬ (6 * σ 1 1 = 6 * σ 1 1 + 2) := by omega
            have a5 : ¬ (6 * σ 1 1 = 6 * σ 1 1 + 1) := by omega
            have b1 : ¬ (6 * σ 1 1 + 1 = 6 * σ 1 1 + 5) := by omega
            have b2 : ¬ (6 * σ 1 1 + 1 = 6 * σ 1 1 + 4) := by omega
            have b3 : ¬ (6 * σ 1 1 + 1 = 6 * σ 1 1 + 3) := by omega
            have b4 : ¬ (6 * σ 1 1 + 1 = 6 * σ 1 1 + 2) := by omega
            have c1 : ¬ (6 * σ 1 1 + 2 = 6 * σ 1 1 + 5) := by omega
            have c2 : ¬ (6 * σ 1 1 + 2 = 6 * σ 1 1 + 4) := by omega
            have c3 : ¬ (6 * σ 1 1 + 2 = 6 * σ 1 1 + 3) := by omega
            have d1 : ¬ (6 * σ 1 1 + 3 = 6 * σ 1 1 + 5) := by omega
            have d2 : ¬ (6 * σ 1 1 + 3 = 6 * σ 1 1 + 4) := by omega
            have f1 : ¬ (6 * σ 1 1 + 4 = 6 * σ 1 1 + 5) := by omega
            simp only [if_neg a1, if_neg a2, if_neg a3, if_neg a4, if_neg a5, if_neg b1, if_neg b2, if_neg b3, if_neg b4, if_neg c1, if_neg c2, if_neg c3, if_neg d1, if_neg d2, if_neg f1, if_true]
            omega
          · have ht : t < σ 1 1 := by omega
            obtain ⟨g1, g2⟩ := h4 t t0 ht
            have eq : ∀ k, 0 ≤ k → k < 6 → newT ax ay bx by' cx cy σ 2 (6 * t + k) = σ 2 (6 * t + k) := by
              intro k k0 k1
              rw [e2]
              rw [if_neg (by omega), if_neg (by omega), if_neg (by omega), if_neg (by omega), if_neg (by omega), if_neg (by omega)]
            have eq0 : newT ax ay bx by' cx cy σ 2 (6 * t) = σ 2 (6 * t) := by
              have := eq 0 (by decide) (by decide)
              rwa [Int.add_zero] at this
            unfold lG unl at *
            rw [eq0, eq 1 (by decide) (by decide), eq 2 (by decide) (by decide), eq 3 (by decide) (by decide), eq 4 (by decide) (by decide), eq 5 (by decide) (by decide)]
            exact ⟨g1, g2⟩
        · rw [e3]
          by_cases e : t = σ 1 1
          · rw [if_pos e]
            decide
          · rw [if_neg e]
            exact h5 t t0 (by omega)
        · have := h6 v v0 v1
          exact ⟨this.1, this.2.1, tie_mono ⟨h2.1, by omega⟩ this.2.2⟩
theorem IPs_oK {t k : Int} {σ : q_S} (h : IPs σ) : IPs (oK t k σ).2 := by
  unfold oK
  by_cases hg : ¬ (0 ≤ t ∧ t < σ 1 1) ∨ ¬ (k = -1 ∨ 0 ≤ k ∧ k < 12)
  · rw [if_pos hg]
    exact h
  · rw [if_neg hg]
    by_cases hs : k ≠ -1 ∧ num k 0 ≠ sgn (lB (σ 2) (6 * t))
    · rw [if_pos hs]
      exact h
    · rw [if_neg hs]
      obtain ⟨h1, h2, h3, h4, h5, h6⟩ := h
      refine ⟨h1, h2, h3, h4, fun u u0 u1 => ?_, h6⟩
      have e3 : q_up σ 3 t (if k = -1 then 12 else k) 3 u = if u = t then (if k = -1 then 12 else k) else σ 3 u := by simp [q_up]
      show 0 ≤ q_up σ 3 t (if k = -1 then 12 else k) 3 u ∧ q_up σ 3 t (if k = -1 then 12 else k) 3 u ≤ 12
      rw [e3]
      by_cases e : u = t
      · rw [if_pos e]
        split <;> omega
      · rw [if_neg e]
        exact h5 u u0 u1
theorem IPs_oV {x y a b : Int} {σ : q_S} (h : IPs σ) : IPs (oV x y a b σ).2 := by
  unfold oV
  by_cases hg : ¬ ((-20 ≤ x ∧ x ≤ 20) ∧ -20 ≤ y ∧ y ≤ 20) ∨ ¬ tieB (σ 1 1) a b = true
  · rw [if_pos hg]
    exact h
  · rw [if_neg hg]
    by_cases ho : ¬ onAL (σ 2) a b x y (σ 1 1).toNat 0 = true
    · rw [if_pos ho]
      exact h
    · rw [if_neg ho]
      by_cases h4' : σ 1 2 = 4
      · rw [if_pos h4']
        exact h
      · rw [if_neg h4']
        obtain ⟨h1, h2, h3, h4, h5, h6⟩ := h
        have hgr : (-20 ≤ x ∧ x ≤ 20) ∧ -20 ≤ y ∧ y ≤ 20 := by
          by_cases z : (-20 ≤ x ∧ x ≤ 20) ∧ -20 ≤ y ∧ y ≤ 20
          · exact z
          · exact absurd (Or.inl z) hg
        have htb : tieok (σ 1 1) a b := by
          rw [← tieB_t]
          by_cases z : tieB (σ 1 1) a b = true
          · exact z
          · exact absurd (Or.inr z) hg
        have e1 : newV x y a b σ 1 2 = σ 1 2 + 1 := by unfold newV; rw [q_up_s]
        have e4 : ∀ j, newV x y a b σ 4 j = if j = σ 1 2 then x else σ 4 j := by intro j; unfold newV; simp [q_up]
        have e5 : ∀ j, newV x y a b σ 5 j = if j = σ 1 2 then y else σ 5 j := by intro j; unfold newV; simp [q_up]
        have e6 : ∀ j, newV x y a b σ 6 j = if j = σ 1 2 then a else σ 6 j := by intro j; unfold newV; simp [q_up]
        have e7 : ∀ j, newV x y a b σ 7 j = if j = σ 1 2 then b else σ 7 j := by intro j; unfold newV; simp [q_up]
        unfold IPs
        dsimp only
        rw [e1]
        refine ⟨h1, h2, by show 0 ≤ σ 1 2 + 1 ∧ _; omega, h4, h5, fun v v0 v1 => ?_⟩
        rw [e4, e5, e6, e7]
        by_cases e : v = σ 1 2
        · rw [if_pos e, if_pos e, if_pos e, if_pos e]
          exact ⟨hgr.1, hgr.2, htb⟩
        · rw [if_neg e, if_neg e, if_neg e, if_neg e]
          exact h6 v v0 (by omega)
theorem IPs_oD {σ : q_S} (h : IPs σ) : IPs (oD σ).2 := by
  unfold oD
  by_cases h0 : σ 1 2 = 0
  · rw [if_pos h0]
    exact h
  · rw [if_neg h0]
    obtain ⟨h1, h2, h3, h4, h5, h6⟩ := h
    have e1 : q_up σ 1 2 (σ 1 2 - 1) 1 2 = σ 1 2 - 1 := q_up_s
    unfold IPs
    dsimp only
    rw [e1]
    exact ⟨h1, h2, by show 0 ≤ σ 1 2 - 1 ∧ _; omega, h4, h5, fun v v0 v1 => h6 v v0 (by omega)⟩
theorem IPs_oW {σ : q_S} (h : IPs σ) : IPs (oW σ).2 := by
  unfold oW
  by_cases h0 : σ 1 1 = 0 ∨ rmB (σ 6) (σ 7) (σ 1 1 - 1) (σ 1 2).toNat 0 = true
  · rw [if_pos h0]
    exact h
  · rw [if_neg h0]
    obtain ⟨h1, h2, h3, h4, h5, h6⟩ := h
    have e1 : q_up σ 1 1 (σ 1 1 - 1) 1 1 = σ 1 1 - 1 := q_up_s
    have h7 := rmB_at _ _ (fun z => h0 (Or.inr z))
    have h8 : ¬ σ 1 1 = 0 := fun z => h0 (Or.inl z)
    unfold IPs
    dsimp only
    rw [e1]
    refine ⟨h1, by show 0 ≤ σ 1 1 - 1 ∧ _; omega, h3, fun t t0 t1 => h4 t t0 (by omega), fun t t0 t1 => h5 t t0 (by omega), fun v v0 v1 => ?_⟩
    have := h6 v v0 v1
    have h9 := h7 v v0 (by have : v < σ 1 2 := v1; omega)
    exact ⟨this.1, this.2.1, tie_less ⟨by omega, h2.2⟩ this.2.2 h9.1 h9.2⟩
def doP (c : Int) (rd : Int → Int) (σ : q_S) : Int × q_S := if c = 102 then oF (rd 0) σ else if c = 107 then oK (rd 0) (rd 1) σ else if c = 116 then oT (rd 0) (rd 1) (rd 2) (rd 3) (rd 4) (rd 5) σ else oV (rd 0) (rd 1) (rd 2) (rd 3) σ
theorem IPs_doP {c : Int} {rd : Int → Int} {σ : q_S} (h : IPs σ) : IPs (doP c rd σ).2 := by
  unfold doP
  split
  · exact IPs_oF h
  · split
    · exact IPs_oK h
    · split
      · exact IPs_oT h
      · exact IPs_oV h
theorem oF_o {x : Int} {σ : q_S} {c : Int} (h : ¬ (1 ≤ c ∧ c ≤ 7)) : (oF x σ).2 c = σ c := by
  unfold oF
  split
  · exact q_up_o (by omega)
  · rfl
theorem oT_o {ax ay bx by' cx cy : Int} {σ : q_S} {c : Int} (h : ¬ (1 ≤ c ∧ c ≤ 7)) : (oT ax ay bx by' cx cy σ).2 c = σ c := by
  unfold oT
  split
  · rfl
  · split
    · rfl
    · split
      · rfl
      · unfold newT
        dsimp only
        rw [q_up_o (by omega), q_up_o (by omega), q_up_o (by omega), q_up_o (by omega), q_up_o (by omega), q_up_o (by omega), q_up_o (by omega), q_up_o (by omega)]
theorem oK_o {t k : Int} {σ : q_S} {c : Int} (h : ¬ (1 ≤ c ∧ c ≤ 7)) : (oK t k σ).2 c = σ c := by
  unfold oK
  split
  · rfl
  · split
    · rfl
    · exact q_up_o (by omega)
theorem oV_o {x y a b : Int} {σ : q_S} {c : Int} (h : ¬ (1 ≤ c ∧ c ≤ 7)) : (oV x y a b σ).2 c = σ c := by
  unfold oV
  split
  · rfl
  · split
    · rfl
    · split
      · rfl
      · unfold newV
        dsimp only
        rw [q_up_o (by omega), q_up_o (by omega), q_up_o (by omega), q_up_o (by omega), q_up_o (by omega)]
theorem oD_o {σ : q_S} {c : Int} (h : ¬ (1 ≤ c ∧ c ≤ 7)) : (oD σ).2 c = σ c := by
  unfold oD
  split
  · rfl
  · exact q_up_o (by omega)
theorem oW_o {σ : q_S} {c : Int} (h : ¬ (1 ≤ c ∧ c ≤ 7)) : (oW σ).2 c = σ c := by
  unfold oW
  split
  · rfl
  · exact q_up_o (by omega)
theorem doP_o {k : Int} {rd : Int → Int} {σ : q_S} {c : Int} (h : ¬ (1 ≤ c ∧ c ≤ 7)) : (doP k rd σ).2 c = σ c := by
  unfold doP
  split
  · exact oF_o h
  · split
    · exact oK_o h
    · split
      · exact oT_o h
      · exact oV_o h
theorem IX_of {σ τ : q_S} (hI : IX σ) (hp : IPs τ) (ho : ∀ c : Int, ¬ (1 ≤ c ∧ c ≤ 7) → τ c = σ c) : IX τ := by
  obtain ⟨_, i2, i3, i4, i5, i6, i7⟩ := hI
  unfold IX
  rw [ho 8 (by decide), ho 91 (by decide), ho 92 (by decide), ho 0 (by decide)]
  refine ⟨hp, i2, i3, i4, i5, i6, fun l h0 h3 => ?_⟩
  rw [ho (104 + 2 * l) (by omega)]
  exact i7 l h0 h3
/-- statements one by one -/
def doA (T : Int → Int) : Nat → Int → (Int → Int) → Int → q_S → Int × Bool × q_S
  | 0, _, _, k, σ => (k, true, σ)
  | n + 1, pl, rd, k, σ => match pStat T pl rd with
    | .inl _ => (0, false, σ)
    | .inr (rd', q) => if (doP (T pl) rd' σ).1 < 0 then (-2000 - pl, false, (doP (T pl) rd' σ).2) else if T q = 59 then doA T n (q + 1) rd' (k + 1) (doP (T pl) rd' σ).2 else (k + 1, true, (doP (T pl) rd' σ).2)
