/-! the law's cases: what is asked -/
theorem cs_q {σ τ σ' τ' : q_S} {r r' : Option q_V} {a b : q_V} (h : Rel σ τ) (e : a = b) (hx : r = some a ∧ ∃ s', σ' = ov σ s') (hm : r' = some b ∧ ∃ s', τ' = ovM τ s') : RES r r' σ' τ' := by
  obtain ⟨h1, s1, h2⟩ := hx
  obtain ⟨h3, s3, h4⟩ := hm
  exact ⟨by rw [h1, h3, e], σ, s1, τ, s3, h2, h4, h⟩
theorem fPaper_ag {m : Int} {g g' : Int → Int} {i : Int} (h : ag m g g') : fPaper m g i = fPaper m g' i := by
  unfold fPaper
  by_cases h0 : i < 0
  · rw [if_pos h0, if_pos h0]
  · rw [if_neg h0, if_neg h0]
    by_cases h1 : i < m
    · rw [if_pos h1, if_pos h1, h i (by omega) h1]
    · rw [if_neg h1, if_neg h1]
theorem fGet_ag {h h' : Int → Int} {g g' : Int → Int → Int} {l i : Int} (hs : ∀ l, 0 ≤ l → l < 3 → h l = h' l ∧ h l ≤ 24 ∧ ag 24 (g l) (g' l)) : fGet h g l i = fGet h' g' l i := by
  unfold fGet
  by_cases hl : 0 ≤ l ∧ l < 3
  · obtain ⟨e1, e2, e3⟩ := hs l hl.1 hl.2
    rw [← e1]
    by_cases hi : 0 ≤ i ∧ i < h l
    · rw [if_pos ⟨hl, hi⟩, if_pos ⟨hl, hi⟩, e3 i hi.1 (by omega)]
    · rw [if_neg (fun z => hi z.2), if_neg (fun z => hi z.2)]
  · rw [if_neg (fun z => hl z.1), if_neg (fun z => hl z.1)]
theorem fJudge_ag {F nt nv : Int} {f xs ys as os h h' : Int → Int} {g g' : Int → Int → Int} {v l p : Int} (hs : ∀ l, 0 ≤ l → l < 3 → h l = h' l ∧ h l ≤ 24 ∧ ag 24 (g l) (g' l)) : fJudge F nt nv f xs ys as os h g v l p = fJudge F nt nv f xs ys as os h' g' v l p := by
  unfold fJudge
  by_cases hb : ¬ (0 ≤ v ∧ v < nv) ∨ ¬ (0 ≤ l ∧ l < 3) ∨ p < 0
  · rw [if_pos hb, if_pos hb]
  · rw [if_neg hb, if_neg hb]
    have hl : 0 ≤ l ∧ l < 3 := by omega
    obtain ⟨e1, e2, e3⟩ := hs l hl.1 hl.2
    rw [← e1, jgL_ag (by omega) e2 e3 _ _ (by decide)]
