/-! the law's cases: undo, image, back -/
theorem ov_id' {σ : q_S} : ov σ σ = σ := by
  funext c x
  unfold ov
  cases scX c x <;> rfl
/-- cells that no scratch hides -/
def nsc (c : Int) : Prop := c ≤ 80 ∨ c = 91 ∨ c = 92 ∨ c = 94 ∨ 104 ≤ c
theorem Rel_e {σ ω τ : q_S} (h : Rel σ τ) (e : ∀ c : Int, (c ≤ 80 ∨ c = 92 ∨ c = 94 ∨ 104 ≤ c) → ω c = σ c) (e1 : ω 91 1 = σ 91 1) : Rel ω τ := by
  obtain ⟨⟨hI, hM⟩, hP, ⟨h1, h2⟩, ⟨h3, h4⟩, h5, h6, h7⟩ := h
  have ep : ∀ p : Int, p ≤ 74 → pE (pcX ω p) (pcX σ p) := fun p hp => pcX_o (fun c x a b => by rw [e c (by omega)])
  have es : ∀ k, slX ω k = slX σ k := fun k => by
    unfold slX
    rw [e 8 (by decide)]
  refine ⟨⟨?_, hM⟩, ?_, ⟨?_, fun k k0 k1 => ?_⟩, ⟨?_, fun hz => ?_⟩, ?_, ?_, ?_⟩
  · unfold IX
    rw [e 1 (by decide), e 2 (by decide), e 3 (by decide), e 4 (by decide), e 5 (by decide), e 6 (by decide), e 7 (by decide), e 8 (by decide), e1, e 92 (by decide), e 0 (by decide)]
    obtain ⟨i1, i2, i3, i4, i5, i6, i7⟩ := hI
    refine ⟨i1, i2, i3, i4, i5, i6, fun l l0 l1 => ?_⟩
    rw [e (104 + 2 * l) (by omega)]
    exact i7 l l0 l1
  · have hz : pE ω σ := ⟨fun j _ _ => by rw [e 1 (by decide)], fun j _ _ => by rw [e 2 (by decide)], fun j _ _ => by rw [e 3 (by decide)], fun k j a b _ _ => by rw [e k (by omega)]⟩
    exact pE_t hz hP
  · rw [e 8 (by decide)]
    exact h1
  · rw [es]
    exact ⟨pE_t (ep _ (by have := @slX_rng σ k; omega)) (h2 k k0 k1).1, (h2 k k0 k1).2⟩
  · rw [e 0 (by decide)]
    exact h3
  · exact ⟨pE_t (ep 73 (by decide)) (h4 hz).1, (h4 hz).2⟩
  · unfold rT
    rw [e1, e 92 (by decide)]
    exact h5
  · unfold rS
    rw [e 0 (by decide), e 94 (by decide)]
    exact h6
  · intro l l0 l1
    rw [e (104 + 2 * l) (by omega), e (104 + 2 * l + 1) (by omega)]
    exact h7 l l0 l1
theorem Rel_ov {σ s τ : q_S} (h : Rel σ τ) : Rel (ov σ s) τ := by
  refine Rel_e h (fun c hc => ?_) rfl
  refine ov_nf (fun x => ?_)
  unfold scX
  have h1 : ¬ (81 ≤ c ∧ c ≤ 90) := by omega
  have h2 : ¬ (96 ≤ c ∧ c ≤ 103) := by omega
  have h3 : ¬ c = 91 := by omega
  have h4 : ¬ c = 93 := by omega
  by_cases a1 : 81 ≤ c
  · have a2 : ¬ c ≤ 90 := fun z => h1 ⟨a1, z⟩
    by_cases a3 : 96 ≤ c
    · have a4 : ¬ c ≤ 103 := fun z => h2 ⟨a3, z⟩
      simp [a2, a4, h3, h4]
    · simp [a2, a3, h3, h4]
  · by_cases a3 : 96 ≤ c
    · omega
    · simp [a1, a3, h3, h4]
theorem RES_w {r r' : Option q_V} {σ' τ1 s' : q_S} (e : r = r') (h : Rel σ' τ1) : RES r r' σ' (ovM τ1 s') := ⟨e, σ', σ', τ1, s', ov_id.symm, rfl, h⟩
