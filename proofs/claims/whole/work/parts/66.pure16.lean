/-! what a change makes of equal pictures -/
theorem lB_e {f f' : Int → Int} {t : Int} (h : ∀ j : Int, 0 ≤ j → j < 48 → f j = f' j) (ht : 0 ≤ t ∧ t < 8) : lB f (6 * t) = lB f' (6 * t) := by
  unfold lB
  rw [h (6 * t) (by omega) (by omega), h (6 * t + 1) (by omega) (by omega), h (6 * t + 2) (by omega) (by omega), h (6 * t + 3) (by omega) (by omega), h (6 * t + 4) (by omega) (by omega), h (6 * t + 5) (by omega) (by omega)]
theorem onb_e {f f' : Int → Int} {t x y : Int} (h : ∀ j : Int, 0 ≤ j → j < 48 → f j = f' j) (ht : 0 ≤ t ∧ t < 8) : onb f t x y = onb f' t x y := by
  have e := lB_e h ht
  unfold onb lO lA lU
  rw [e, h (6 * t) (by omega) (by omega), h (6 * t + 1) (by omega) (by omega), h (6 * t + 2) (by omega) (by omega), h (6 * t + 3) (by omega) (by omega), h (6 * t + 4) (by omega) (by omega), h (6 * t + 5) (by omega) (by omega)]
theorem onAL_e {f f' : Int → Int} {a b x y : Int} (h : ∀ j : Int, 0 ≤ j → j < 48 → f j = f' j) : ∀ (n : Nat) (i : Int), 0 ≤ i → i + n ≤ 8 → onAL f a b x y n i = onAL f' a b x y n i := by
  intro n
  induction n with
  | zero => intro i _ _; rfl
  | succ n ih =>
    intro i h0 h1
    rw [onAL, onAL, onb_e h ⟨h0, by omega⟩, ih (i + 1) (by omega) (by omega)]
theorem newT_pE {ax ay bx by' cx cy : Int} {τ τ' : q_S} (h : pE τ τ') : pE (newT ax ay bx by' cx cy τ) (newT ax ay bx by' cx cy τ') := by
  unfold newT
  rw [h.1 1 (by decide) (by decide)]
  exact up_pE (up_pE (up_pE (up_pE (up_pE (up_pE (up_pE (up_pE h)))))))
theorem newV_pE {x y a b : Int} {τ τ' : q_S} (h : pE τ τ') : pE (newV x y a b τ) (newV x y a b τ') := by
  unfold newV
  rw [h.1 2 (by decide) (by decide)]
  exact up_pE (up_pE (up_pE (up_pE (up_pE h))))
theorem doP_pE {c : Int} {rd : Int → Int} {τ τ' : q_S} (hI : IPs τ) (h : pE τ τ') : (doP c rd τ).1 = (doP c rd τ').1 ∧ pE (doP c rd τ).2 (doP c rd τ').2 := by
  have e0 := h.1 0 (by decide) (by decide)
  have e1 := h.1 1 (by decide) (by decide)
  have e2 := h.1 2 (by decide) (by decide)
  have hn := hI.2.1
  unfold doP
  by_cases h1 : c = 102
  · rw [if_pos h1, if_pos h1]
    unfold oF
    by_cases z : 1 ≤ rd 0 ∧ rd 0 ≤ 9
    · rw [if_pos z, if_pos z]
      exact ⟨e0, up_pE h⟩
    · rw [if_neg z, if_neg z]
      exact ⟨rfl, h⟩
  · rw [if_neg h1, if_neg h1]
    by_cases h2 : c = 107
    · rw [if_pos h2, if_pos h2]
      unfold oK
      rw [← e1]
      by_cases z : ¬ (0 ≤ rd 0 ∧ rd 0 < τ 1 1) ∨ ¬ (rd 1 = -1 ∨ 0 ≤ rd 1 ∧ rd 1 < 12)
      · rw [if_pos z, if_pos z]
        exact ⟨rfl, h⟩
      · have hr : 0 ≤ rd 0 ∧ rd 0 < 8 := by omega
        rw [if_neg z, if_neg z, ← lB_e h.2.1 hr]
        by_cases z2 : rd 1 ≠ -1 ∧ num (rd 1) 0 ≠ sgn (lB (τ 2) (6 * rd 0))
        · rw [if_pos z2, if_pos z2]
          exact ⟨rfl, h⟩
        · rw [if_neg z2, if_neg z2]
          exact ⟨h.2.2.1 _ hr.1 hr.2, up_pE h⟩
    · rw [if_neg h2, if_neg h2]
      by_cases h3 : c = 116
      · rw [if_pos h3, if_pos h3]
        unfold oT
        rw [← e1]
        split
        · exact ⟨rfl, h⟩
        · split
          · exact ⟨rfl, h⟩
          · split
            · exact ⟨rfl, h⟩
            · exact ⟨rfl, newT_pE h⟩
      · rw [if_neg h3, if_neg h3]
        unfold oV
        rw [← e1, ← e2, ← onAL_e h.2.1 _ _ (by decide) (by omega)]
        split
        · exact ⟨rfl, h⟩
        · split
          · exact ⟨rfl, h⟩
          · split
            · exact ⟨rfl, h⟩
            · exact ⟨rfl, newV_pE h⟩
theorem pStat_f {T : Int → Int} {p q : Int} {rd rd' : Int → Int} (h : pStat T p rd = .inr (rd', q)) (hc : T p = 102) : 0 ≤ rd' 0 ∧ rd' 0 ≤ 9 := by
  unfold pStat at h
  rw [if_pos hc] at h
  by_cases hf : fig T (p + 1)
  · rw [if_pos hf] at h
    have e : ud rd 0 (T (p + 1) - 48) = rd' := by
      cases h
      rfl
    rw [← e, ud_s]
    obtain ⟨h1, h2⟩ := hf
    omega
  · rw [if_neg hf] at h
    cases h
theorem pStat_0 {T : Int → Int} {p : Int} {rd : Int → Int} (h : T p = 0) : pStat T p rd = .inl p := by
  unfold pStat
  rw [if_neg (by omega), if_neg (by omega), if_neg (by omega), if_neg (by omega)]
theorem doP_neg {c : Int} {rd : Int → Int} {τ : q_S} (hI : IPs τ) (h : (doP c rd τ).1 < 0) : (doP c rd τ).2 = τ := by
  have hn := hI.2.1
  have hv := hI.2.2.1
  have hf := hI.1
  have hk := hI.2.2.2.2.1
  unfold doP at h ⊢
  by_cases h1 : c = 102
  · rw [if_pos h1] at h ⊢
    unfold oF at h ⊢
    split
    · rename_i z
      rw [if_pos z] at h
      have h : τ 1 0 < 0 := h
      omega
    · rfl
  · rw [if_neg h1] at h ⊢
    by_cases h2 : c = 107
    · rw [if_pos h2] at h ⊢
      unfold oK at h ⊢
      split
      · rfl
      · rename_i z
        rw [if_neg z] at h
        split
        · rfl
        · rename_i z2
          rw [if_neg z2] at h
          have h : τ 3 (rd 0) < 0 := h
          have := (hk (rd 0) (by omega) (by omega)).1
          omega
    · rw [if_neg h2] at h ⊢
      by_cases h3 : c = 116
      · rw [if_pos h3] at h ⊢
        unfold oT at h ⊢
        split
        · rfl
        · rename_i z
          rw [if_neg z] at h
          split
          · rfl
          · rename_i z2
            rw [if_neg z2] at h
            split
            · rfl
            · rename_i z3
              rw [if_neg z3] at h
              have h : τ 1 1 < 0 := h
              omega
      · rw [if_neg h3] at h ⊢
        unfold oV at h ⊢
        split
        · rfl
        · rename_i z
          rw [if_neg z] at h
          split
          · rfl
          · rename_i z2
            rw [if_neg z2] at h
            split
            · rfl
            · rename_i z3
              rw [if_neg z3] at h
              have h : τ 1 2 < 0 := h
              omega
