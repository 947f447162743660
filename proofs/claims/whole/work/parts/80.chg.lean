/-! a change on both sides -/
theorem pM_ag {n n' : Int → Int} (h : ∀ x : Int, 0 ≤ x → x < 80 → n x = n' x) : pE (pM n) (pM n') := by
  refine ⟨fun j a b => h j a (by omega), fun j a b => h (3 + j) (by omega) (by omega), fun j a b => ?_, fun k j a b c d => ?_⟩
  · show (if n (51 + j) = -1 then (12 : Int) else n (51 + j)) = (if n' (51 + j) = -1 then (12 : Int) else n' (51 + j))
    rw [h (51 + j) (by omega) (by omega)]
  · rcases (by omega : k = 4 ∨ k = 5 ∨ k = 6 ∨ k = 7) with rfl | rfl | rfl | rfl
    · exact h (59 + 4 * j + 0) (by omega) (by omega)
    · exact h (59 + 4 * j + 1) (by omega) (by omega)
    · exact h (59 + 4 * j + 2) (by omega) (by omega)
    · exact h (59 + 4 * j + 3) (by omega) (by omega)
theorem KR_ag {n n' : Int → Int} (hn : n 1 ≤ 8) (h : ∀ x : Int, 0 ≤ x → x < 80 → n' x = n x) (hk : KR n) : KR n' := by
  intro t t0 t1
  rw [h 1 (by decide) (by decide)] at t1
  rw [h (51 + t) (by omega) (by omega)]
  exact hk t t0 t1
theorem kp_c {τ : q_S} (hc : 0 ≤ τ 0 9 ∧ τ 0 9 ≤ 8) : kpM τ 0 9 = (if 8 < τ 0 9 + 1 then 8 else τ 0 9 + 1) := by
  rw [kpM_9]
  by_cases e : τ 0 9 = 8
  · rw [if_pos e, if_pos (by omega)]
  · rw [if_neg e, if_neg (by omega)]
theorem kp_new {τ : q_S} (hc : 0 ≤ τ 0 9 ∧ τ 0 9 ≤ 8) : ∀ x : Int, 0 ≤ x → x < 80 → blk (kpM τ) (kpM τ 0 9 - 1 - 0) x = τ 1 x := by
  intro x x0 x1
  rw [kpM_9]
  unfold blk kpM
  by_cases e : τ 0 9 = 8
  · rw [if_pos e, if_pos e, q_up_n (by omega), cpy_s (by omega), q_up_n (by omega), shf_o (by decide)]
    congr 1
    omega
  · rw [if_neg e, if_neg e, q_up_n (by omega), cpy_s (by omega)]
    congr 1
    omega
theorem kp_old {τ : q_S} (hc : 0 ≤ τ 0 9 ∧ τ 0 9 ≤ 8) {k : Int} (hk : 1 ≤ k ∧ k < kpM τ 0 9) : ∀ x : Int, 0 ≤ x → x < 80 → blk (kpM τ) (kpM τ 0 9 - 1 - k) x = blk τ (τ 0 9 - 1 - (k - 1)) x := by
  intro x x0 x1
  rw [kpM_9] at hk ⊢
  unfold blk kpM
  by_cases e : τ 0 9 = 8
  · rw [if_pos e] at hk ⊢
    rw [if_pos e, q_up_n (by omega), cpy_n (by omega), q_up_n (by omega), shf_8 7 1 τ _ (by decide), if_pos (by omega)]
    congr 1
    omega
  · rw [if_neg e] at hk ⊢
    rw [if_neg e, q_up_n (by omega), cpy_n (by omega)]
    congr 1
    omega
