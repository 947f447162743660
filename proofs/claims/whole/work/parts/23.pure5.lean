/-- a statement -/
def pStat (T : Int → Int) (p : Int) (rd : Int → Int) : Int ⊕ ((Int → Int) × Int) :=
  if T p = 102 then (if fig T (p + 1) then .inr (ud rd 0 (T (p + 1) - 48), p + 1 + 1) else .inl (p + 1))
  else if T p = 116 then pNums T 6 0 (p + 1) rd
  else if T p = 107 then (if fig T (p + 1) then (if 0 ≤ ixL (T (p + 1 + 1)) 12 0 then .inr (ud (ud rd 0 (T (p + 1) - 48)) 1 (ixL (T (p + 1 + 1)) 12 0), p + 1 + 1 + 1) else .inl (p + 1 + 1)) else .inl (p + 1))
  else if T p = 118 then (match pNums T 2 0 (p + 1) rd with
    | .inl q => .inl q
    | .inr (rd', q) => pTies T q rd')
  else .inl p
/-- the place of the first fault of writing, or -1 -/
def pAll (T : Int → Int) (len : Int) : Nat → Int → (Int → Int) → Int
  | 0, p, _ => p
  | n + 1, p, rd => match pStat T p rd with
    | .inl q => q
    | .inr (rd', q) => if q = len then -1 else if T q = 59 then pAll T len n (q + 1) rd' else q
theorem tT_up {σ : q_S} {k v : Int} (h : k ≠ 1) : tT (q_up σ 91 k v) = tT σ := by
  funext j
  unfold tT
  rw [q_up_n (c := 91) (c' := 91) (by omega), q_up_n (c := 91) (c' := 92) (by omega)]
theorem up_up {σ : q_S} {c k v w : Int} : q_up (q_up σ c k v) c k w = q_up σ c k w := by
  funext c' x'
  unfold q_up
  by_cases h : c' = c ∧ x' = k <;> simp [h]
theorem tp_st {σ : q_S} {pl v : Int} {rd : Int → Int} : q_up (tp σ pl rd) 91 3 v = tp (q_up σ 91 3 v) pl rd := by
  funext c x
  unfold tp q_row q_up
  by_cases h : c = 93
  · simp [h]
  · by_cases h2 : c = 91
    · subst h2
      by_cases h3 : x = 3
      · simp [h3]
      · simp [h3]
    · simp [h, h2]
theorem pNums_in {σ : q_S} : ∀ (n : Nat) (i pl : Int) (rd : Int → Int), (0 ≤ pl ∧ pl ≤ σ 91 1) → (∀ q, pNums (tT σ) n i pl rd = .inl q → pl ≤ q ∧ q ≤ σ 91 1) ∧ (∀ rd' q, pNums (tT σ) n i pl rd = .inr (rd', q) → pl ≤ q ∧ q ≤ σ 91 1) := by
  intro n
  induction n with
  | zero =>
    intro i pl rd hp
    refine ⟨fun q h => ?_, fun rd' q h => ?_⟩ <;> rw [pNums] at h
    · cases h
    · cases h
      omega
  | succ n ih =>
    intro i pl rd hp
    have hlt := tT_lt (σ := σ) (p := pl)
    have go : ∀ p : Int, (0 ≤ p ∧ p ≤ σ 91 1) → pl ≤ p → (∀ q, (match pNum (tT σ) p with | .inl q => (Sum.inl q : Int ⊕ ((Int → Int) × Int)) | .inr (x, q) => pNums (tT σ) n (i + 1) q (ud rd i x)) = .inl q → pl ≤ q ∧ q ≤ σ 91 1) ∧ (∀ rd' q, (match pNum (tT σ) p with | .inl q => (Sum.inl q : Int ⊕ ((Int → Int) × Int)) | .inr (x, q) => pNums (tT σ) n (i + 1) q (ud rd i x)) = .inr (rd', q) → pl ≤ q ∧ q ≤ σ 91 1) := by
      intro p h1 h2
      cases hn : pNum (tT σ) p with
      | inl q0 =>
        have := (pNum_in (σ := σ) (x := 0) (q := q0) h1).1 hn
        refine ⟨fun q h => ?_, fun rd' q h => by cases h⟩
        cases h
        omega
      | inr xq =>
        obtain ⟨x, q0⟩ := xq
        have := (pNum_in (σ := σ) (x := x) (q := q0) h1).2 hn
        have h3 := ih (i + 1) q0 (ud rd i x) (by omega)
        refine ⟨fun q h => ?_, fun rd' q h => ?_⟩
        · have := h3.1 q h; omega
        · have := h3.2 rd' q h; omega
    rw [pNums]
    by_cases hi : i = 0
    · simp only [if_pos hi]
      exact go pl hp (by omega)
    · by_cases hc : tT σ pl = 44
      · simp only [if_neg hi, if_pos hc]
        exact go (pl + 1) (by omega) (by omega)
      · simp only [if_neg hi, if_neg hc]
        refine ⟨fun q h => ?_, fun rd' q h => by cases h⟩
        cases h
        omega
theorem pOuts_in {σ : q_S} : ∀ (n : Nat) (i pl os : Int), (0 ≤ pl ∧ pl ≤ σ 91 1) → (∀ q, pOuts (tT σ) n i pl os = .inl q → pl ≤ q ∧ q ≤ σ 91 1) ∧ (∀ x q, pOuts (tT σ) n i pl os = .inr (x, q) → pl ≤ q ∧ q ≤ σ 91 1) := by
  intro n
  induction n with
  | zero =>
    intro i pl os hp
    refine ⟨fun q h => ?_, fun x q h => ?_⟩ <;> rw [pOuts] at h
    · cases h
    · cases h
      omega
  | succ n ih =>
    intro i pl os hp
    have h1 := tT_lt (σ := σ) (p := pl)
    have h2 := tT_lt (σ := σ) (p := pl + 1)
    rw [pOuts]
    by_cases ha : tT σ pl = 62
    · by_cases hb : fig (tT σ) (pl + 1)
      · simp only [if_pos ha, if_pos hb]
        have h3 := ih (i + 1) (pl + 1 + 1) (q_or os (q_shl 1 (tT σ (pl + 1) - 48))) (by omega)
        refine ⟨fun q h => ?_, fun x q h => ?_⟩
        · have := h3.1 q h; omega
        · have := h3.2 x q h; omega
      · simp only [if_pos ha, if_neg hb]
        refine ⟨fun q h => ?_, fun x q h => by cases h⟩
        cases h
        omega
    · by_cases hi : i = 0
      · simp only [if_neg ha, if_pos hi]
        refine ⟨fun q h => ?_, fun x q h => by cases h⟩
        cases h
        omega
      · simp only [if_neg ha, if_neg hi]
        refine ⟨fun q h => (by cases h), fun x q h => ?_⟩
        cases h
        omega
theorem pTies_in {σ : q_S} {pl : Int} {rd : Int → Int} (hp : 0 ≤ pl ∧ pl ≤ σ 91 1) : (∀ q, pTies (tT σ) pl rd = .inl q → pl ≤ q ∧ q ≤ σ 91 1) ∧ (∀ rd' q, pTies (tT σ) pl rd = .inr (rd', q) → pl ≤ q ∧ q ≤ σ 91 1) := by
  have h1 := tT_lt (σ := σ) (p := pl)
  have h2 := tT_lt (σ := σ) (p := pl + 1)
  have go : ∀ (p : Int) (f : Int → (Int → Int)), (0 ≤ p ∧ p ≤ σ 91 1) → pl ≤ p → (∀ q, (match pOuts (tT σ) 3 0 p 0 with | .inl q => (Sum.inl q : Int ⊕ ((Int → Int) × Int)) | .inr (os, q) => (Sum.inr (f os, q) : Int ⊕ ((Int → Int) × Int))) = .inl q → pl ≤ q ∧ q ≤ σ 91 1) ∧ (∀ rd' q, (match pOuts (tT σ) 3 0 p 0 with | .inl q => (Sum.inl q : Int ⊕ ((Int → Int) × Int)) | .inr (os, q) => (Sum.inr (f os, q) : Int ⊕ ((Int → Int) × Int))) = .inr (rd', q) → pl ≤ q ∧ q ≤ σ 91 1) := by
    intro p f h3 h4
    have h5 := pOuts_in (σ := σ) 3 0 p 0 h3
    cases hn : pOuts (tT σ) 3 0 p 0 with
    | inl q0 =>
      have := h5.1 q0 hn
      refine ⟨fun q h => ?_, fun rd' q h => by cases h⟩
      cases h
      omega
    | inr xq =>
      obtain ⟨x, q0⟩ := xq
      have := h5.2 x q0 hn
      refine ⟨fun q h => (by cases h), fun rd' q h => ?_⟩
      cases h
      omega
  unfold pTies
  by_cases ha : tT σ pl = 60
  · by_cases hb : fig (tT σ) (pl + 1)
    · simp only [if_pos ha, if_pos hb]
      exact go (pl + 1 + 1) (fun os => ud (ud rd 2 (tT σ (pl + 1) - 48)) 3 os) (by omega) (by omega)
    · simp only [if_pos ha, if_neg hb]
      refine ⟨fun q h => ?_, fun rd' q h => by cases h⟩
      cases h
      omega
  · simp only [if_neg ha]
    exact go pl (fun os => ud (ud rd 2 (-1)) 3 os) hp (by omega)
theorem pStat_in {σ : q_S} {pl : Int} {rd : Int → Int} (hp : 0 ≤ pl ∧ pl ≤ σ 91 1) : (∀ q, pStat (tT σ) pl rd = .inl q → pl ≤ q ∧ q ≤ σ 91 1) ∧ (∀ rd' q, pStat (tT σ) pl rd = .inr (rd', q) → pl < q ∧ q ≤ σ 91 1) := by
  have h1 := tT_lt (σ := σ) (p := pl)
  have h2 := tT_lt (σ := σ) (p := pl + 1)
  have h3 := tT_lt (σ := σ) (p := pl + 1 + 1)
  unfold pStat
  by_cases a1 : tT σ pl = 102
  · by_cases hb : fig (tT σ) (pl + 1)
    · simp only [if_pos a1, if_pos hb]
      refine ⟨fun q h => (by cases h), fun rd' q h => ?_⟩
      cases h
      omega
    · simp only [if_pos a1, if_neg hb]
      refine ⟨fun q h => ?_, fun rd' q h => by cases h⟩
      cases h
      omega
  · by_cases a2 : tT σ pl = 116
    · simp only [if_neg a1, if_pos a2]
      have := pNums_in (σ := σ) 6 0 (pl + 1) rd (by omega)
      refine ⟨fun q h => ?_, fun rd' q h => ?_⟩
      · have := this.1 q h; omega
      · have := this.2 rd' q h; omega
    · by_cases a3 : tT σ pl = 107
      · simp only [if_neg a1, if_neg a2, if_pos a3]
        by_cases hb : fig (tT σ) (pl + 1)
        · by_cases hc : 0 ≤ ixL (tT σ (pl + 1 + 1)) 12 0
          · simp only [if_pos hb, if_pos hc]
            refine ⟨fun q h => (by cases h), fun rd' q h => ?_⟩
            cases h
            have hz : tT σ (pl + 1 + 1) ≠ 0 := fun z => by
              rw [z] at hc
              exact absurd hc (by decide)
            have := h3 hz
            omega
          · simp only [if_pos hb, if_neg hc]
            refine ⟨fun q h => ?_, fun rd' q h => by cases h⟩
            cases h
            omega
        · simp only [if_neg hb]
          refine ⟨fun q h => ?_, fun rd' q h => by cases h⟩
          cases h
          omega
      · by_cases a4 : tT σ pl = 118
        · simp only [if_neg a1, if_neg a2, if_neg a3, if_pos a4]
          have h5 := pNums_in (σ := σ) 2 0 (pl + 1) rd (by omega)
          cases hn : pNums (tT σ) 2 0 (pl + 1) rd with
          | inl q0 =>
            have := h5.1 q0 hn
            refine ⟨fun q h => ?_, fun rd' q h => by cases h⟩
            cases h
            omega
          | inr xq =>
            obtain ⟨x, q0⟩ := xq
            have := h5.2 x q0 hn
            have h6 := pTies_in (σ := σ) (pl := q0) (rd := x) (by omega)
            refine ⟨fun q h => ?_, fun rd' q h => ?_⟩
            · have := h6.1 q h; omega
            · have := h6.2 rd' q h; omega
        · simp only [if_neg a1, if_neg a2, if_neg a3, if_neg a4]
          refine ⟨fun q h => ?_, fun rd' q h => by cases h⟩
          cases h
          omega
