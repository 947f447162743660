/-! a change on both sides -/
theorem stl_o {σ : q_S} {c x : Int} (h : ¬ (c = 8 ∧ (x = 1 ∨ x = 2))) : stl σ c x = σ c x := by
  unfold stl
  rw [q_up_n (by omega), q_up_n (by omega)]
theorem stl_1 {σ : q_S} (h : 0 ≤ σ 8 1) : stl σ 8 1 = (σ 8 1 + 1) % 9 := by
  unfold stl
  rw [q_up_n (by omega), q_up_s, Int.tmod_eq_emod_of_nonneg (by omega)]
theorem stl_2 {σ : q_S} : stl σ 8 2 = if 8 < σ 8 2 + 1 then 8 else σ 8 2 + 1 := q_up_s
theorem stl_c {σ : q_S} {c : Int} (h : c ≠ 8) : stl σ c = σ c := funext fun x => stl_o (by omega)
theorem chg {σ σ1 τ τ' : q_S} {p p' : Int × q_S} (h : Rel σ τ) (hcp : pcopied σ σ1 1 (10 + 7 * σ 8 1)) (hI : IPs p.2) (hp : cR p p') (ho : ∀ c : Int, ¬ (1 ≤ c ∧ c ≤ 7) → p.2 c = σ1 c) (hneg : p.1 < 0 → p.2 = σ1) (hm : chM τ p' τ') : p.1 = p'.1 ∧ ∃ τ1 s', τ' = ovM τ1 s' ∧ Rel (fin p) τ1 := by
  refine ⟨hp.1, ?_⟩
  have hR1 := Rel_cp h hcp
  rcases hm with ⟨h0, τ1, s', e1, hb, hpe, hk⟩ | ⟨h0, s', e1⟩
  · refine ⟨τ1, s', e1, ?_⟩
    have ef : fin p = stl p.2 := if_pos (by rw [hp.1]; exact h0)
    rw [ef]
    obtain ⟨⟨hX, hM⟩, hP, ⟨h1, h2⟩, ⟨h3, h4⟩, h5, h6, h7⟩ := h
    obtain ⟨⟨hX1, _⟩, _, ⟨g1, g2⟩, ⟨g3, g4⟩, g5, g6, g7⟩ := hR1
    have h8 := hX.2.1
    have hc9 := hM.2.2.2.1
    have e8 : σ1 8 = σ 8 := cp_o h8 hcp (by decide)
    have p8 : p.2 8 = σ 8 := (ho 8 (by decide)).trans e8
    have so : ∀ c : Int, c ≠ 8 → ¬ (1 ≤ c ∧ c ≤ 7) → stl p.2 c = σ1 c := fun c a b => (stl_c a).trans (ho c b)
    have hpp : pE (pM (τ1 1)) p.2 := pE_t hpe (pE_s (cE_pE hp.2))
    have hpm : IPs (pM (τ1 1)) := IPs_pE hI hpp
    have b9 : τ1 0 9 = kpM τ 0 9 := by rw [hb 0 (by decide)]
    have b8 : ∀ k, blk τ1 k = blk (kpM τ) k := fun k => by
      unfold blk
      rw [hb 8 (by decide)]
    have hk9 := kp_c hc9
    have s1 : stl p.2 8 1 = (σ 8 1 + 1) % 9 := by
      rw [stl_1 (by rw [p8]; exact h8.1), p8]
    have s2 : stl p.2 8 2 = if 8 < σ 8 2 + 1 then 8 else σ 8 2 + 1 := by
      rw [stl_2, p8]
    have hk9b : 1 ≤ kpM τ 0 9 ∧ kpM τ 0 9 ≤ 8 := by
      rw [hk9]
      split <;> omega
    have hs0 : slX (stl p.2) 0 = 10 + 7 * σ 8 1 := by
      unfold slX
      rw [s1]
      omega
    have hsk : ∀ k : Int, slX (stl p.2) k = slX σ (k - 1) := fun k => by
      unfold slX
      rw [s1]
      omega
    have hpc : ∀ q : Int, 10 ≤ q → pE (pcX (stl p.2) q) (pcX σ1 q) := fun q hq => pcX_o (fun c x a b => by rw [so c (by omega) (by omega)])
    have hcl : ∀ c : Int, 1 ≤ c → c ≤ 7 → stl p.2 c = p.2 c := fun c a b => stl_c (by omega)
    have hpe2 : pE (stl p.2) p.2 := cE_pE hcl
    have hix : IX (stl p.2) := by
      have hx2 : IX p.2 := IX_of hX1 hI ho
      unfold IX at hx2 ⊢
      rw [hcl 1 (by decide) (by decide), hcl 2 (by decide) (by decide), hcl 3 (by decide) (by decide), hcl 4 (by decide) (by decide), hcl 5 (by decide) (by decide), hcl 6 (by decide) (by decide), hcl 7 (by decide) (by decide), s1, s2, stl_c (c := 91) (by decide), stl_c (c := 92) (by decide), stl_c (c := 0) (by decide)]
      obtain ⟨i1, i2, i3, i4, i5, i6, i7⟩ := hx2
      rw [p8] at i2 i3
      refine ⟨i1, by omega, by split <;> omega, i4, i5, i6, fun l l0 l1 => ?_⟩
      rw [stl_c (c := 104 + 2 * l) (by omega)]
      exact i7 l l0 l1
    have him : IM τ1 := IM_of hM hpm hk (fun c c0 c1 => (hb c (by omega)).trans (funext fun x => kpM_o (by omega) (by omega))) (by rw [b9]; omega) (by rw [hb 0 (by decide), kpM_o (by decide) (by decide)]) ((hb 14 (by decide)).trans (funext fun x => kpM_o (by decide) (by omega))) (by rw [hb 0 (by decide), kpM_o (by decide) (by decide)]) ((hb 18 (by decide)).trans (funext fun x => kpM_o (by decide) (by omega)))
    refine ⟨⟨hix, him⟩, pE_t hpe2 (pE_s hpp), ⟨?_, fun k k0 k1 => ?_⟩, ⟨?_, fun hz => ?_⟩, ?_, ?_, ?_⟩
    · rw [s2, b9, hk9, h1]
    · rw [b9] at k1
      rw [b9, b8]
      by_cases e : k = 0
      · subst e
        have hag := kp_new hc9
        rw [hs0]
        refine ⟨pE_t (hpc _ (by omega)) (pE_t (pE_cp hcp) ?_), ?_, ?_⟩
        · rw [pcX_1]
          exact pE_t hP (pE_s (pM_ag hag))
        · exact IPs_pE hM.1 (pM_ag hag)
        · exact KR_ag hM.nt.2 hag hM.2.1
      · have hag := kp_old hc9 (k := k) ⟨by omega, k1⟩
        have hkk : k - 1 < τ 0 9 := by
          rw [hk9] at k1
          split at k1 <;> omega
        have hz := h2 (k - 1) (by omega) hkk
        rw [hsk]
        refine ⟨pE_t (hpc _ (by have := @slX_rng σ (k - 1); omega)) (pE_t (sl_cp h8 hcp ⟨by omega, by omega⟩) (pE_t hz.1 (pE_s (pM_ag hag)))), IPs_pE hz.2.1 (pM_ag hag), KR_ag ?_ hag hz.2.2⟩
        exact hz.2.1.2.1.2
    · rw [so 0 (by decide) (by decide), hb 0 (by decide), kpM_o (by decide) (by decide)]
      exact g3
    · rw [hb 0 (by decide), kpM_o (by decide) (by decide)] at hz
      have e21 : τ1 21 = τ 21 := (hb 21 (by decide)).trans (funext fun x => kpM_o (by decide) (by omega))
      rw [e21]
      exact ⟨pE_t (hpc 73 (by decide)) (g4 hz).1, (g4 hz).2⟩
    · unfold rT
      rw [so 91 (by decide) (by decide), so 92 (by decide) (by decide), hb 0 (by decide), kpM_o (by decide) (by decide), (hb 14 (by decide)).trans (funext fun x => kpM_o (by decide) (by omega))]
      exact g5
    · unfold rS
      rw [so 0 (by decide) (by decide), so 94 (by decide) (by decide), hb 0 (by decide), kpM_o (by decide) (by decide), (hb 17 (by decide)).trans (funext fun x => kpM_o (by decide) (by omega))]
      exact g6
    · intro l l0 l1
      rw [so (104 + 2 * l) (by omega) (by omega), so (104 + 2 * l + 1) (by omega) (by omega), hb 18 (by decide), hb 19 (by decide), kpM_o (by decide) (by omega)]
      refine ⟨(g7 l l0 l1).1, fun j j0 j1 => ?_⟩
      rw [kpM_o (by decide) (by omega)]
      exact (g7 l l0 l1).2 j j0 j1
  · refine ⟨τ, s', e1, ?_⟩
    have hn : p.1 < 0 := by rw [hp.1]; exact h0
    have ef : fin p = p.2 := if_neg (by omega)
    rw [ef, hneg hn]
    exact hR1
