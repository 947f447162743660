/-! what was read before doesn't matter to what is read -/
def pR (N : Int) (a b : Int ⊕ ((Int → Int) × Int)) : Prop := match a, b with
  | .inl q, .inl q2 => q = q2
  | .inr (f, q), .inr (g, q2) => q = q2 ∧ ag N f g
  | _, _ => False
theorem ag_ud2 {k i v : Int} {f g : Int → Int} (h : ag k f g) : ag k (ud f i v) (ud g i v) := by
  intro j h0 h1
  unfold ud
  by_cases e : j = i
  · rw [if_pos e, if_pos e]
  · rw [if_neg e, if_neg e]
    exact h j h0 h1
theorem pNums_x {T : Int → Int} : ∀ (n : Nat) (i p : Int) (f g : Int → Int), 0 ≤ i → ag i f g → pR (i + n) (pNums T n i p f) (pNums T n i p g) := by
  intro n
  induction n with
  | zero =>
    intro i p f g h0 h
    rw [pNums, pNums]
    exact ⟨rfl, by simpa using h⟩
  | succ n ih =>
    intro i p f g h0 h
    have e : i + ((n + 1 : Nat) : Int) = i + 1 + n := by omega
    rw [e, pNums, pNums]
    by_cases hi : i = 0
    · rw [if_pos hi, if_pos hi]
      cases hn : pNum T p with
      | inl q => exact rfl
      | inr xq =>
        obtain ⟨x, q⟩ := xq
        exact ih (i + 1) q _ _ (by omega) (ag_ud h h0)
    · rw [if_neg hi, if_neg hi]
      by_cases hc : T p = 44
      · rw [if_pos hc, if_pos hc]
        cases hn : pNum T (p + 1) with
        | inl q => exact rfl
        | inr xq =>
          obtain ⟨x, q⟩ := xq
          exact ih (i + 1) q _ _ (by omega) (ag_ud h h0)
      · rw [if_neg hc, if_neg hc]
        exact rfl
theorem pTies_x {T : Int → Int} {p : Int} {f g : Int → Int} (h : ag 2 f g) : pR 4 (pTies T p f) (pTies T p g) := by
  unfold pTies
  have h4 : ∀ x y : Int, ag 4 (ud (ud f 2 x) 3 y) (ud (ud g 2 x) 3 y) := fun x y => ag_ud (k := 3) (ag_ud (k := 2) h (by decide)) (by decide)
  by_cases ha : T p = 60
  · rw [if_pos ha, if_pos ha]
    by_cases hb : fig T (p + 1)
    · rw [if_pos hb, if_pos hb]
      cases hn : pOuts T 3 0 (p + 1 + 1) 0 with
      | inl q => exact rfl
      | inr xq =>
        obtain ⟨x, q⟩ := xq
        exact ⟨rfl, h4 _ _⟩
    · rw [if_neg hb, if_neg hb]
      exact rfl
  · rw [if_neg ha, if_neg ha]
    cases hn : pOuts T 3 0 p 0 with
    | inl q => exact rfl
    | inr xq =>
      obtain ⟨x, q⟩ := xq
      exact ⟨rfl, h4 _ _⟩
def pN (c : Int) : Int := if c = 102 then 1 else if c = 116 then 6 else if c = 107 then 2 else 4
theorem pStat_x {T : Int → Int} {p : Int} {f g : Int → Int} : pR (pN (T p)) (pStat T p f) (pStat T p g) := by
  have h0 : ag 0 f g := fun j a b => by omega
  unfold pStat pN
  by_cases a1 : T p = 102
  · rw [if_pos a1, if_pos a1, if_pos a1]
    by_cases hb : fig T (p + 1)
    · rw [if_pos hb, if_pos hb]
      exact ⟨rfl, ag_ud (k := 0) h0 (by decide)⟩
    · rw [if_neg hb, if_neg hb]
      exact rfl
  · rw [if_neg a1, if_neg a1, if_neg a1]
    by_cases a2 : T p = 116
    · rw [if_pos a2, if_pos a2, if_pos a2]
      exact pNums_x 6 0 (p + 1) f g (by decide) h0
    · rw [if_neg a2, if_neg a2, if_neg a2]
      by_cases a3 : T p = 107
      · rw [if_pos a3, if_pos a3, if_pos a3]
        by_cases hb : fig T (p + 1)
        · rw [if_pos hb, if_pos hb]
          by_cases hc : 0 ≤ ixL (T (p + 1 + 1)) 12 0
          · rw [if_pos hc, if_pos hc]
            exact ⟨rfl, ag_ud (k := 1) (ag_ud (k := 0) h0 (by decide)) (by decide)⟩
          · rw [if_neg hc, if_neg hc]
            exact rfl
        · rw [if_neg hb, if_neg hb]
          exact rfl
      · rw [if_neg a3, if_neg a3, if_neg a3]
        by_cases a4 : T p = 118
        · rw [if_pos a4, if_pos a4]
          have h2 := pNums_x (T := T) 2 0 (p + 1) f g (by decide) h0
          cases hn : pNums T 2 0 (p + 1) f with
          | inl q =>
            rw [hn] at h2
            cases hm : pNums T 2 0 (p + 1) g with
            | inl q2 =>
              rw [hm] at h2
              exact h2
            | inr xq =>
              rw [hm] at h2
              exact h2.elim
          | inr xq =>
            obtain ⟨x, q⟩ := xq
            rw [hn] at h2
            cases hm : pNums T 2 0 (p + 1) g with
            | inl q2 =>
              rw [hm] at h2
              exact h2.elim
            | inr yq =>
              obtain ⟨y, q2⟩ := yq
              rw [hm] at h2
              obtain ⟨e, h3⟩ := h2
              subst e
              exact pTies_x h3
        · rw [if_neg a4, if_neg a4]
          exact rfl
theorem doP_x {c : Int} {f g : Int → Int} {σ : q_S} (h : ag (pN c) f g) : doP c f σ = doP c g σ := by
  unfold pN at h
  unfold doP
  by_cases a1 : c = 102
  · rw [if_pos a1] at h
    rw [if_pos a1, if_pos a1, h 0 (by decide) (by decide)]
  · rw [if_neg a1] at h
    rw [if_neg a1, if_neg a1]
    by_cases a2 : c = 116
    · rw [if_pos a2] at h
      have a3 : ¬ c = 107 := by omega
      rw [if_neg a3, if_neg a3, if_pos a2, if_pos a2, h 0 (by decide) (by decide), h 1 (by decide) (by decide), h 2 (by decide) (by decide), h 3 (by decide) (by decide), h 4 (by decide) (by decide), h 5 (by decide) (by decide)]
    · rw [if_neg a2] at h
      by_cases a3 : c = 107
      · rw [if_pos a3] at h
        rw [if_pos a3, if_pos a3, h 0 (by decide) (by decide), h 1 (by decide) (by decide)]
      · rw [if_neg a3] at h
        rw [if_neg a3, if_neg a3, if_neg a2, if_neg a2, h 0 (by decide) (by decide), h 1 (by decide) (by decide), h 2 (by decide) (by decide), h 3 (by decide) (by decide)]
theorem pAll_x {T : Int → Int} {len : Int} : ∀ (n : Nat) (p : Int) (f g : Int → Int), pAll T len n p f = pAll T len n p g := by
  intro n
  induction n with
  | zero => intro p f g; rfl
  | succ n ih =>
    intro p f g
    have h := pStat_x (T := T) (p := p) (f := f) (g := g)
    rw [pAll, pAll]
    cases hn : pStat T p f with
    | inl q =>
      rw [hn] at h
      cases hm : pStat T p g with
      | inl q2 =>
        rw [hm] at h
        exact h
      | inr xq =>
        rw [hm] at h
        exact h.elim
    | inr xq =>
      obtain ⟨x, q⟩ := xq
      rw [hn] at h
      cases hm : pStat T p g with
      | inl q2 =>
        rw [hm] at h
        exact h.elim
      | inr yq =>
        obtain ⟨y, q2⟩ := yq
        rw [hm] at h
        obtain ⟨e, h3⟩ := h
        subst e
        dsimp only
        rw [ih (q + 1) x y]
theorem doA_x {T : Int → Int} : ∀ (n : Nat) (p : Int) (f g : Int → Int) (k : Int) (σ : q_S), doA T n p f k σ = doA T n p g k σ := by
  intro n
  induction n with
  | zero => intro p f g k σ; rfl
  | succ n ih =>
    intro p f g k σ
    have h := pStat_x (T := T) (p := p) (f := f) (g := g)
    rw [doA, doA]
    cases hn : pStat T p f with
    | inl q =>
      rw [hn] at h
      cases hm : pStat T p g with
      | inl q2 => rfl
      | inr xq =>
        rw [hm] at h
        exact h.elim
    | inr xq =>
      obtain ⟨x, q⟩ := xq
      rw [hn] at h
      cases hm : pStat T p g with
      | inl q2 =>
        rw [hm] at h
        exact h.elim
      | inr yq =>
        obtain ⟨y, q2⟩ := yq
        rw [hm] at h
        obtain ⟨e, h3⟩ := h
        subst e
        dsimp only
        rw [doP_x h3, ih (q + 1) x y]
def z0 : Int → Int := fun _ => 0
def pA (T : Int → Int) (len : Int) : Int := pAll T len 120 0 z0
def dA (T : Int → Int) (σ : q_S) : Int × Bool × q_S := doA T 120 0 z0 0 σ
theorem doA_o {T : Int → Int} : ∀ (n : Nat) (p : Int) (f : Int → Int) (k : Int) (σ : q_S) (c : Int), ¬ (1 ≤ c ∧ c ≤ 7) → (doA T n p f k σ).2.2 c = σ c := by
  intro n
  induction n with
  | zero => intro p f k σ c _; rfl
  | succ n ih =>
    intro p f k σ c hc
    rw [doA]
    cases hn : pStat T p f with
    | inl q => rfl
    | inr xq =>
      obtain ⟨x, q⟩ := xq
      dsimp only
      split
      · exact doP_o hc
      · split
        · rw [ih _ _ _ _ c hc]
          exact doP_o hc
        · exact doP_o hc
theorem IPs_doA {T : Int → Int} : ∀ (n : Nat) (p : Int) (f : Int → Int) (k : Int) (σ : q_S), IPs σ → IPs (doA T n p f k σ).2.2 := by
  intro n
  induction n with
  | zero => intro p f k σ h; exact h
  | succ n ih =>
    intro p f k σ h
    rw [doA]
    cases hn : pStat T p f with
    | inl q => exact h
    | inr xq =>
      obtain ⟨x, q⟩ := xq
      dsimp only
      split
      · exact IPs_doP h
      · split
        · exact ih _ _ _ _ (IPs_doP h)
        · exact IPs_doP h
theorem pAll_le {σ : q_S} : ∀ (n : Nat) (p : Int) (f : Int → Int), (0 ≤ p ∧ p ≤ σ 91 1) → pAll (tT σ) (σ 91 1) n p f ≤ σ 91 1 := by
  intro n
  induction n with
  | zero => intro p f hp; exact hp.2
  | succ n ih =>
    intro p f hp
    have hin := pStat_in (σ := σ) (rd := f) hp
    have hlt := fun q => tT_lt (σ := σ) (p := q)
    rw [pAll]
    cases hn : pStat (tT σ) p f with
    | inl q =>
      have := hin.1 _ hn
      exact this.2
    | inr xq =>
      obtain ⟨x, q⟩ := xq
      have := hin.2 _ _ hn
      dsimp only
      by_cases e : q = σ 91 1
      · rw [if_pos e]
        omega
      · rw [if_neg e]
        by_cases e2 : tT σ q = 59
        · rw [if_pos e2]
          exact ih (q + 1) x (by omega)
        · rw [if_neg e2]
          exact this.2
