/-! the class's world with the reference's picture -/
theorem nrm_rE {σ τ : q_S} (h : rP σ τ) : ∀ c : Nat, c < shX.1 → rE (shX.2 c) (σ c) (nrm σ τ c) := by
  intro c hc
  obtain ⟨h1, h2, h3, h4⟩ := h
  by_cases e : 1 ≤ c ∧ c ≤ 7
  · rw [nrm_i (by omega)]
    have hcc : c = 1 ∨ c = 2 ∨ c = 3 ∨ c = 4 ∨ c = 5 ∨ c = 6 ∨ c = 7 := by omega
    rcases hcc with rfl | rfl | rfl | rfl | rfl | rfl | rfl
    · intro k t hk
      have hk3 : k < 3 := by
        match k, hk with
        | 0, _ => decide
        | 1, _ => decide
        | 2, _ => decide
        | 3, hk => cases hk
        | 4, hk => cases hk
        | 5, hk => cases hk
        | 6, hk => cases hk
        | 7, hk => cases hk
        | 8, hk => cases hk
        | k + 9, hk => cases hk
      exact h1 k (by omega) (by omega)
    · intro j hj
      exact h2 j (by omega) (by have : j < 48 := hj; omega)
    · intro j hj
      exact h3 j (by omega) (by have : j < 8 := hj; omega)
    · intro j hj
      exact h4 4 j (by decide) (by decide) (by omega) (by have : j < 4 := hj; omega)
    · intro j hj
      exact h4 5 j (by decide) (by decide) (by omega) (by have : j < 4 := hj; omega)
    · intro j hj
      exact h4 6 j (by decide) (by decide) (by omega) (by have : j < 4 := hj; omega)
    · intro j hj
      exact h4 7 j (by decide) (by decide) (by omega) (by have : j < 4 := hj; omega)
  · rw [nrm_o (by omega)]
    unfold rE
    split
    · exact fun _ _ _ => rfl
    · exact fun _ _ => rfl
    · trivial
theorem row_32 {τ : q_S} (h : q_rng shM τ) (x : Int) : q_i32 (τ 1 x) := h 1 (by decide) x
theorem pM_32 {τ : q_S} (h : q_rng shM τ) (c x : Int) : q_i32 (pM (τ 1) c x) := by
  have hr := row_32 h
  have h0 : q_i32 0 := ⟨by decide, by decide⟩
  have h12 : q_i32 12 := ⟨by decide, by decide⟩
  unfold pM
  split
  · exact hr _
  · split
    · exact hr _
    · split
      · split
        · exact h12
        · exact hr _
      · split
        · exact hr _
        · split
          · exact hr _
          · split
            · exact hr _
            · split
              · exact hr _
              · exact h0
theorem nrm_rng {σ τ : q_S} (h : q_rng shX σ) (h2 : q_rng shM τ) : q_rng shX (nrm σ τ) := by
  intro c hc
  by_cases e : 1 ≤ c ∧ c ≤ 7
  · rw [nrm_i (by omega)]
    have hcc : c = 1 ∨ c = 2 ∨ c = 3 ∨ c = 4 ∨ c = 5 ∨ c = 6 ∨ c = 7 := by omega
    rcases hcc with rfl | rfl | rfl | rfl | rfl | rfl | rfl
    · intro k t hk
      have ht : t = 0 := by
        match k, hk with
        | 0, hk => cases hk; rfl
        | 1, hk => cases hk; rfl
        | 2, hk => cases hk; rfl
        | 3, hk => cases hk
        | 4, hk => cases hk
        | 5, hk => cases hk
        | 6, hk => cases hk
        | 7, hk => cases hk
        | 8, hk => cases hk
        | k + 9, hk => cases hk
      rw [ht]
      exact pM_32 h2 _ _
    · exact fun k => pM_32 h2 _ _
    · exact fun k => pM_32 h2 _ _
    · exact fun k => pM_32 h2 _ _
    · exact fun k => pM_32 h2 _ _
    · exact fun k => pM_32 h2 _ _
    · exact fun k => pM_32 h2 _ _
  · rw [nrm_o (by omega)]
    exact h c hc
theorem nrm_Rel {σ τ : q_S} (h : Rel σ τ) : Rel (nrm σ τ) τ := by
  obtain ⟨⟨hI, hM⟩, hP, ⟨h1, h2⟩, ⟨h3, h4⟩, h5, h6, h7⟩ := h
  have o : ∀ c : Int, ¬ (1 ≤ c ∧ c ≤ 7) → nrm σ τ c = σ c := fun c hc => nrm_o hc
  have e1 : ∀ p : Int, 10 ≤ p → pcX (nrm σ τ) p = pcX σ p ∨ True := fun _ _ => Or.inr trivial
  have ep : ∀ p : Int, 10 ≤ p → pE (pcX (nrm σ τ) p) (pcX σ p) := fun p hp => pcX_o (fun c x a b => by rw [o c (by omega)])
  have es : ∀ k, slX (nrm σ τ) k = slX σ k := fun k => by
    unfold slX
    rw [o 8 (by decide)]
  refine ⟨⟨IX_of hI ?_ o, hM⟩, ?_, ⟨?_, fun k k0 k1 => ?_⟩, ⟨?_, fun hz => ?_⟩, ?_, ?_, ?_⟩
  · have e : ∀ c x : Int, 1 ≤ c → c ≤ 7 → nrm σ τ c x = pM (τ 1) c x := fun c x a b => by rw [nrm_i ⟨a, b⟩]
    exact IPs_pE hM.1 ⟨fun j _ _ => e 1 j (by decide) (by decide), fun j _ _ => e 2 j (by decide) (by decide), fun j _ _ => e 3 j (by decide) (by decide), fun k j a b _ _ => e k j (by omega) b⟩
  · have e : ∀ c x : Int, 1 ≤ c → c ≤ 7 → nrm σ τ c x = pM (τ 1) c x := fun c x a b => by rw [nrm_i ⟨a, b⟩]
    exact ⟨fun j _ _ => e 1 j (by decide) (by decide), fun j _ _ => e 2 j (by decide) (by decide), fun j _ _ => e 3 j (by decide) (by decide), fun k j a b _ _ => e k j (by omega) b⟩
  · rw [o 8 (by decide)]
    exact h1
  · have h := h2 k k0 k1
    rw [es]
    have hr := @slX_rng σ k
    exact ⟨pE_t (ep _ (by omega)) h.1, h.2⟩
  · rw [o 0 (by decide)]
    exact h3
  · have h := h4 hz
    exact ⟨pE_t (ep 73 (by decide)) h.1, h.2⟩
  · unfold rT
    rw [o 91 (by decide), o 92 (by decide)]
    exact h5
  · unfold rS
    rw [o 0 (by decide), o 94 (by decide)]
    exact h6
  · intro l l0 l1
    rw [o (104 + 2 * l) (by omega), o (104 + 2 * l + 1) (by omega)]
    exact h7 l l0 l1
