/-! both sides at once: what is written agrees where it is read -/
theorem prL_ag {kd : Int → Int} {b : Int} : ∀ (n : Nat) (i : Int) (s s' : (Int → Int) × Int), 0 ≤ s.2 → s.2 = s'.2 → ag s.2 s.1 s'.1 → 0 ≤ (prL kd b n i s).2 ∧ (prL kd b n i s).2 = (prL kd b n i s').2 ∧ ag (prL kd b n i s).2 (prL kd b n i s).1 (prL kd b n i s').1 := by
  intro n
  induction n with
  | zero => intro i s s' h0 h1 h2; exact ⟨h0, h1, h2⟩
  | succ n ih =>
    intro i s s' h0 h1 h2
    rw [prL, prL]
    by_cases e : q_and (q_shr b i) 1 = 1
    · rw [if_pos e, if_pos e]
      refine ih (i + 1) _ _ (by show 0 ≤ s.2 + 1; omega) (by show s.2 + 1 = s'.2 + 1; omega) ?_
      show ag (s.2 + 1) (ud s.1 s.2 (ltr (kd i))) (ud s'.1 s'.2 (ltr (kd i)))
      rw [← h1]
      exact ag_ud h2 h0
    · rw [if_neg e, if_neg e]
      exact ih (i + 1) s s' h0 h1 h2
theorem prF_ag {kd g g' : Int → Int} {nt a b : Int} : 0 ≤ (prF kd nt a b g).2 ∧ (prF kd nt a b g).2 = (prF kd nt a b g').2 ∧ ag (prF kd nt a b g).2 (prF kd nt a b g).1 (prF kd nt a b g').1 := by
  have h0 : ag 0 g g' := fun j a b => by omega
  unfold prF
  by_cases e : a = -1
  · rw [if_pos e, if_pos e]
    refine prL_ag _ _ _ _ (by show (0 : Int) ≤ 0 + 1 + 1; decide) rfl ?_
    exact ag_ud (k := 0 + 1) (ag_ud (k := 0) h0 (by decide)) (by decide)
  · rw [if_neg e, if_neg e]
    refine prL_ag _ _ _ _ (by show (0 : Int) ≤ 0 + 1 + 1 + 1; decide) rfl ?_
    exact ag_ud (k := 0 + 1 + 1) (ag_ud (k := 0 + 1) (ag_ud (k := 0) h0 (by decide)) (by decide)) (by decide)
theorem inL_ag {tn : Int → Int} {p sz : Int} : ∀ (n : Nat) (i : Int) (g g' : Int → Int), ag 24 g g' → (inL tn p sz n i g).1 = (inL tn p sz n i g').1 ∧ ag 24 (inL tn p sz n i g).2 (inL tn p sz n i g').2 := by
  intro n
  induction n with
  | zero => intro i g g' h; exact ⟨rfl, h⟩
  | succ n ih =>
    intro i g g' h
    rw [inL, inL]
    by_cases e : p + i < sz
    · rw [if_pos e, if_pos e]
      refine ih (i + 1) _ _ (fun j j0 j1 => ?_)
      by_cases e2 : j = p + i
      · rw [if_pos e2, if_pos e2]
      · rw [if_neg e2, if_neg e2]
        exact h j j0 j1
    · rw [if_neg e, if_neg e]
      exact ⟨rfl, h⟩
theorem jgL_ag {tn g g' : Int → Int} {p sz : Int} (hp : 0 ≤ p) (hs : sz ≤ 24) (h : ag 24 g g') : ∀ (n : Nat) (i : Int), 0 ≤ i → jgL tn g p sz n i = jgL tn g' p sz n i := by
  intro n
  induction n with
  | zero => intro i _; rfl
  | succ n ih =>
    intro i h0
    rw [jgL, jgL]
    by_cases e : p + i < sz
    · rw [h (p + i) (by omega) (by omega), ih (i + 1) (by omega)]
    · rw [if_pos e, if_pos e]
theorem IPs_k {τ : q_S} {t k : Int} (h : IPs τ) (hk : 0 ≤ k ∧ k ≤ 12) : IPs (q_up τ 3 t k) := by
  obtain ⟨h1, h2, h3, h4, h5, h6⟩ := h
  refine ⟨h1, h2, h3, h4, fun j j0 j1 => ?_, h6⟩
  by_cases e : j = t
  · rw [e, q_up_s]
    exact hk
  · rw [q_up_n (fun z => e z.2)]
    exact h5 j j0 j1
theorem IPs_clK {ow fi : Int → Int} : ∀ (n : Nat) (i : Int) (τ : q_S), IPs τ → (∀ j, i ≤ j → j < i + n → 0 ≤ fi j ∧ fi j ≤ 12) → IPs (clK ow fi n i τ) := by
  intro n
  induction n with
  | zero => intro i τ h _; exact h
  | succ n ih =>
    intro i τ h hf
    rw [clK]
    exact ih (i + 1) _ (IPs_k h (hf i (by omega) (by omega))) (fun j j0 j1 => hf j (by omega) (by omega))
theorem IPs_oC {v L w : Int} {τ : q_S} (h : IPs τ) : IPs (oC v L w τ).2 := by
  show IPs (if 0 ≤ fCalls (τ 1 1) (τ 1 2) (τ 2) (τ 3) (τ 6) (τ 7) v L w then _ else τ)
  by_cases e : 0 ≤ fCalls (τ 1 1) (τ 1 2) (τ 2) (τ 3) (τ 6) (τ 7) v L w
  · rw [if_pos e]
    unfold fCalls at e
    by_cases z : ¬ ((0 ≤ v ∧ v < τ 1 2) ∧ (0 ≤ L ∧ L < 3) ∧ (w = 0 ∨ w = 1))
    · rw [if_pos z] at e
      exact absurd e (by decide)
    · rw [if_neg z] at e
      by_cases z2 : 3 < (akA (τ 2) (τ 3) (τ 1 1) (τ 6 v) (τ 7 v)).2.2.2.2
      · rw [if_pos z2] at e
        exact absurd e (by decide)
      · rw [if_neg z2] at e
        by_cases z3 : (wF L (ak2 (akA (τ 2) (τ 3) (τ 1 1) (τ 6 v) (τ 7 v)) (τ 6 v) w)).2.2 = 0
        · rw [if_pos z3] at e
          exact absurd e (by decide)
        · have hk := ak2_k (A := akA (τ 2) (τ 3) (τ 1 1) (τ 6 v) (τ 7 v)) (a := τ 6 v) (lost := w)
          have hk0 : 0 ≤ (akA (τ 2) (τ 3) (τ 1 1) (τ 6 v) (τ 7 v)).2.2.2.2 := (akL_keep (f := τ 2) (kd := τ 3) (g := mF (τ 6 v) (τ 7 v) (τ 1 1)) (a := τ 6 v) (mC (τ 6 v) (τ 7 v) (τ 1 1)).toNat 0 A0 (by decide)).1
          have hle : (akA (τ 2) (τ 3) (τ 1 1) (τ 6 v) (τ 7 v)).2.2.2.2 ≤ (ak2 (akA (τ 2) (τ 3) (τ 1 1) (τ 6 v) (τ 7 v)) (τ 6 v) w).2.2.2.2 := by
            by_cases y1 : τ 6 v = -1
            · by_cases y2 : w = 1
              · rw [if_pos y1, if_pos y2] at hk; omega
              · rw [if_pos y1, if_neg y2] at hk; omega
            · by_cases y2 : w = 1
              · rw [if_neg y1, if_pos y2] at hk; omega
              · rw [if_neg y1, if_neg y2] at hk; omega
          have hr := wF_rng (L := L) (A := ak2 (akA (τ 2) (τ 3) (τ 1 1) (τ 6 v) (τ 7 v)) (τ 6 v) w) (by omega) z3
          exact IPs_clK _ _ _ h (fun j j0 j1 => by have := hr j j0 (by omega); omega)
  · rw [if_neg e]
    exact h
