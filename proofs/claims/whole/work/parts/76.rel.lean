/-! both sides: when their worlds stand for the same -/
def pcX (τ : q_S) (p : Int) : q_S := fun c x => τ (p + (c - 1)) x
def blk (σ : q_S) (k : Int) : Int → Int := fun x => σ 8 (80 * k + x)
/-- the class's slot of the k-th change before -/
def slX (σ : q_S) (k : Int) : Int := 10 + 7 * ((σ 8 1 - 1 - k) % 9)
def rP (σ τ : q_S) : Prop := pE σ (pM (τ 1))
def rH (σ τ : q_S) : Prop := σ 8 2 = τ 0 9 ∧ ∀ k : Int, 0 ≤ k → k < τ 0 9 → pE (pcX σ (slX σ k)) (pM (blk τ (τ 0 9 - 1 - k))) ∧ IPs (pM (blk τ (τ 0 9 - 1 - k))) ∧ KR (blk τ (τ 0 9 - 1 - k))
def rI (σ τ : q_S) : Prop := (σ 0 3 = 0 ↔ τ 0 38 = 0) ∧ (τ 0 38 ≠ 0 → pE (pcX σ 73) (pM (τ 21)) ∧ IPs (pM (τ 21)) ∧ KR (τ 21))
def rT (σ τ : q_S) : Prop := σ 91 1 = τ 0 28 ∧ ag (τ 0 28) (σ 92) (τ 14)
def rS (σ τ : q_S) : Prop := σ 0 11 = τ 0 34 ∧ ag (τ 0 34) (σ 94) (τ 17)
def rL (σ τ : q_S) : Prop := ∀ l : Int, 0 ≤ l → l < 3 → σ (104 + 2 * l) 1 = τ 18 l ∧ ∀ j : Int, 0 ≤ j → j < 24 → σ (104 + 2 * l + 1) j = τ 19 (24 * l + j)
def Rel (σ τ : q_S) : Prop := (IX σ ∧ IM τ) ∧ rP σ τ ∧ rH σ τ ∧ rI σ τ ∧ rT σ τ ∧ rS σ τ ∧ rL σ τ
theorem pcX_1 {σ : q_S} : pcX σ 1 = σ := by
  funext c x
  unfold pcX
  rw [show 1 + (c - 1) = c by omega]
theorem pE_cp {σ σ' : q_S} {q p : Int} (h : pcopied σ σ' q p) : pE (pcX σ' p) (pcX σ q) := by
  obtain ⟨h1, h2, h3, h4, _⟩ := h
  refine ⟨fun j a b => ?_, fun j a b => ?_, fun j a b => ?_, fun k j a b c d => ?_⟩
  · have := h1 j a b
    unfold pcX
    rw [show p + (1 - 1) = p by omega, show q + (1 - 1) = q by omega]
    exact this
  · exact h2 j a b
  · exact h3 j a b
  · have := h4 (k - 1) j (by omega) (by omega) c d
    exact this
theorem pcX_o {σ σ' : q_S} {p : Int} (h : ∀ c x : Int, p ≤ c → c ≤ p + 6 → σ' c x = σ c x) : pE (pcX σ' p) (pcX σ p) :=
  ⟨fun j _ _ => h _ _ (by omega) (by omega), fun j _ _ => h _ _ (by omega) (by omega), fun j _ _ => h _ _ (by omega) (by omega), fun k j a b _ _ => h _ _ (by omega) (by omega)⟩
theorem slX_rng {σ : q_S} {k : Int} : 10 ≤ slX σ k ∧ slX σ k + 6 ≤ 72 := by
  unfold slX
  omega
