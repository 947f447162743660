/-! the draft copied: nothing is another -/
theorem cp_o {σ σ1 : q_S} (h8 : 0 ≤ σ 8 1 ∧ σ 8 1 < 9) (h : pcopied σ σ1 1 (10 + 7 * σ 8 1)) {c : Int} (hc : c < 10 ∨ 73 ≤ c) : σ1 c = σ c := by
  funext x
  exact h.2.2.2.2 c x (by omega)
theorem IX_cp {σ σ1 : q_S} (hI : IX σ) (e : ∀ c : Int, (c < 10 ∨ 73 ≤ c) → σ1 c = σ c) : IX σ1 := by
  unfold IX
  rw [e 1 (by decide), e 2 (by decide), e 3 (by decide), e 4 (by decide), e 5 (by decide), e 6 (by decide), e 7 (by decide), e 8 (by decide), e 91 (by decide), e 92 (by decide), e 0 (by decide)]
  obtain ⟨i1, i2, i3, i4, i5, i6, i7⟩ := hI
  refine ⟨i1, i2, i3, i4, i5, i6, fun l h0 h3 => ?_⟩
  rw [e (104 + 2 * l) (by omega)]
  exact i7 l h0 h3
theorem sl_cp {σ σ1 : q_S} (h8 : 0 ≤ σ 8 1 ∧ σ 8 1 < 9) (h : pcopied σ σ1 1 (10 + 7 * σ 8 1)) {k : Int} (hk : 0 ≤ k ∧ k < 8) : pE (pcX σ1 (slX σ k)) (pcX σ (slX σ k)) := by
  refine pcX_o (fun c x a b => h.2.2.2.2 c x ?_)
  have e1 : (σ 8 1 - 1 - k) % 9 ≠ σ 8 1 := by omega
  have e2 : 0 ≤ (σ 8 1 - 1 - k) % 9 := by omega
  unfold slX at a b
  generalize (σ 8 1 - 1 - k) % 9 = m at *
  omega
theorem Rel_cp {σ σ1 τ : q_S} (h : Rel σ τ) (hcp : pcopied σ σ1 1 (10 + 7 * σ 8 1)) : Rel σ1 τ := by
  obtain ⟨⟨hI, hM⟩, hP, ⟨h1, h2⟩, ⟨h3, h4⟩, h5, h6, h7⟩ := h
  have h8 := hI.2.1
  have e : ∀ c : Int, (c < 10 ∨ 73 ≤ c) → σ1 c = σ c := fun c hc => cp_o h8 hcp hc
  have hc9 := hM.2.2.2.1
  have es : ∀ k, slX σ1 k = slX σ k := fun k => by
    unfold slX
    rw [e 8 (by decide)]
  refine ⟨⟨IX_cp hI e, hM⟩, ?_, ⟨?_, fun k k0 k1 => ?_⟩, ⟨?_, fun hz => ?_⟩, ?_, ?_, ?_⟩
  · have hz : pE σ1 σ := ⟨fun j _ _ => by rw [e 1 (by decide)], fun j _ _ => by rw [e 2 (by decide)], fun j _ _ => by rw [e 3 (by decide)], fun k j a b _ _ => by rw [e k (by omega)]⟩
    exact pE_t hz hP
  · rw [e 8 (by decide)]
    exact h1
  · rw [es]
    exact ⟨pE_t (sl_cp h8 hcp ⟨k0, by omega⟩) (h2 k k0 k1).1, (h2 k k0 k1).2⟩
  · rw [e 0 (by decide)]
    exact h3
  · exact ⟨pE_t (pcX_o (fun c x a b => by rw [e c (by omega)])) (h4 hz).1, (h4 hz).2⟩
  · unfold rT
    rw [e 91 (by decide), e 92 (by decide)]
    exact h5
  · unfold rS
    rw [e 0 (by decide), e 94 (by decide)]
    exact h6
  · intro l l0 l1
    rw [e (104 + 2 * l) (by omega), e (104 + 2 * l + 1) (by omega)]
    exact h7 l l0 l1
