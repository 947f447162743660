/-! the law's cases: image, back -/
theorem cs_image {ω τ σ' τ' : q_S} {s : q_S} {r r' : Option q_V} (h : Rel ω τ) (hx : r = some (.inl (ω 1 1)) ∧ ∃ σ1, pcopied ω σ1 1 73 ∧ σ' = q_up σ1 0 3 1) (hm : r' = some (.inl (τ 1 1)) ∧ τ' = ovM (q_cpy (q_up τ 0 38 1) 1 0 21 0 80) s) : RES r r' σ' τ' := by
  obtain ⟨x1, σ1, hcp, x2⟩ := hx
  obtain ⟨m1, m2⟩ := hm
  have e11 : ω 1 1 = τ 1 1 := h.2.1.1 1 (by decide) (by decide)
  rw [m2, x2]
  refine RES_w (by rw [x1, m1, e11]) ?_
  obtain ⟨⟨hI, hM⟩, hP, ⟨h1, h2⟩, ⟨h3, h4⟩, h5, h6, h7⟩ := h
  have hf := hcp.2.2.2.2
  have hc9 := hM.2.2.2.1
  have eo : ∀ c : Int, c ≠ 0 → (c < 73 ∨ 79 < c) → q_up σ1 0 3 1 c = ω c := fun c c0 hc => funext fun x => by
    rw [q_up_n (fun z => c0 z.1), hf c x (by omega)]
  have e0 : ∀ x : Int, x ≠ 3 → q_up σ1 0 3 1 0 x = ω 0 x := fun x hx => by
    rw [q_up_n (fun z => hx z.2), hf 0 x (by omega)]
  have to : ∀ c : Int, c ≠ 0 → c ≠ 21 → q_cpy (q_up τ 0 38 1) 1 0 21 0 80 c = τ c := fun c c0 c1 => funext fun x => by
    rw [cpy_n (fun z => c1 z.1), q_up_n (fun z => c0 z.1)]
  have t0 : ∀ x : Int, x ≠ 38 → q_cpy (q_up τ 0 38 1) 1 0 21 0 80 0 x = τ 0 x := fun x hx => by
    rw [cpy_n (by omega), q_up_n (fun z => hx z.2)]
  have t38 : q_cpy (q_up τ 0 38 1) 1 0 21 0 80 0 38 = 1 := by
    rw [cpy_n (by omega), q_up_s]
  have t21 : ∀ x : Int, 0 ≤ x → x < 80 → q_cpy (q_up τ 0 38 1) 1 0 21 0 80 21 x = τ 1 x := fun x x0 x1 => by
    rw [cpy_s (by omega), q_up_n (by omega)]
    congr 1
    omega
  have es : ∀ k, slX (q_up σ1 0 3 1) k = slX ω k := fun k => by
    unfold slX
    rw [eo 8 (by decide) (by decide)]
  have hb : ∀ j, blk (q_cpy (q_up τ 0 38 1) 1 0 21 0 80) j = blk τ j := fun j => by
    unfold blk
    rw [to 8 (by decide) (by decide)]
  refine ⟨⟨?_, ?_⟩, ?_, ⟨?_, fun k k0 k1 => ?_⟩, ⟨?_, fun hz => ?_⟩, ?_, ?_, ?_⟩
  · unfold IX
    rw [eo 1 (by decide) (by decide), eo 2 (by decide) (by decide), eo 3 (by decide) (by decide), eo 4 (by decide) (by decide), eo 5 (by decide) (by decide), eo 6 (by decide) (by decide), eo 7 (by decide) (by decide), eo 8 (by decide) (by decide), eo 91 (by decide) (by decide), eo 92 (by decide) (by decide), e0 11 (by decide)]
    obtain ⟨i1, i2, i3, i4, i5, i6, i7⟩ := hI
    refine ⟨i1, i2, i3, i4, i5, i6, fun l l0 l1 => ?_⟩
    rw [eo (104 + 2 * l) (by omega) (by omega)]
    exact i7 l l0 l1
  · refine IM_of hM ?_ ?_ (fun c c0 c1 => to c (by omega) (by omega)) (by rw [t0 9 (by decide)]; exact hc9) (t0 28 (by decide)) (to 14 (by decide) (by decide)) (t0 34 (by decide)) (to 18 (by decide) (by decide))
    · rw [to 1 (by decide) (by decide)]
      exact hM.1
    · rw [to 1 (by decide) (by decide)]
      exact hM.2.1
  · unfold rP
    rw [to 1 (by decide) (by decide)]
    have hz : pE (q_up σ1 0 3 1) ω := ⟨fun j _ _ => by rw [eo 1 (by decide) (by decide)], fun j _ _ => by rw [eo 2 (by decide) (by decide)], fun j _ _ => by rw [eo 3 (by decide) (by decide)], fun k j a b _ _ => by rw [eo k (by omega) (by omega)]⟩
    exact pE_t hz hP
  · rw [eo 8 (by decide) (by decide), t0 9 (by decide)]
    exact h1
  · rw [t0 9 (by decide)] at k1 ⊢
    rw [es, hb]
    have hr := @slX_rng ω k
    exact ⟨pE_t (pcX_o (fun c x a b => by rw [eo c (by omega) (by omega)])) (h2 k k0 k1).1, (h2 k k0 k1).2⟩
  · rw [q_up_s, t38]
  · have hag := pM_ag t21
    have hcp2 := pE_cp hcp
    rw [pcX_1] at hcp2
    refine ⟨pE_t (pcX_o (fun c x a b => q_up_n (by omega))) (pE_t hcp2 (pE_t hP (pE_s hag))), IPs_pE hM.1 hag, KR_ag hM.nt.2 t21 hM.2.1⟩
  · unfold rT
    rw [eo 91 (by decide) (by decide), eo 92 (by decide) (by decide), t0 28 (by decide), to 14 (by decide) (by decide)]
    exact h5
  · unfold rS
    rw [e0 11 (by decide), eo 94 (by decide) (by decide), t0 34 (by decide), to 17 (by decide) (by decide)]
    exact h6
  · intro l l0 l1
    rw [eo (104 + 2 * l) (by omega) (by omega), eo (104 + 2 * l + 1) (by omega) (by omega), to 18 (by decide) (by decide), to 19 (by decide) (by decide)]
    exact h7 l l0 l1
theorem cs_back {ω τ σ' τ' : q_S} {s : q_S} {r r' : Option q_V} (h : Rel ω τ) (hx : ω 0 3 = 0 ∧ r = some (.inl (-5)) ∧ σ' = ω ∨ ω 0 3 ≠ 0 ∧ r = some (.inl (ω 73 1)) ∧ ∃ σ1, pcopied ω σ1 73 1 ∧ σ' = q_up σ1 8 2 0) (hm : ∃ z, r' = some z ∧ ((τ 0 38 = 0 ∧ z = .inl (-5) ∧ τ' = ovM τ s) ∨ (τ 0 38 ≠ 0 ∧ z = .inl (τ 21 1) ∧ τ' = ovM (q_up (q_cpy τ 21 0 1 0 80) 0 9 0) s))) : RES r r' σ' τ' := by
  have h33 := h.2.2.2.1.1
  obtain ⟨z, hr', hm⟩ := hm
  rcases hx with ⟨x1, x2, x3⟩ | ⟨x1, x2, σ1, hcp, x3⟩
  · rcases hm with ⟨m1, m2, m3⟩ | ⟨m1, m2, m3⟩
    · rw [m3, x3]
      exact RES_w (by rw [x2, hr', m2]) h
    · exact absurd (h33.mp x1) m1
  · rcases hm with ⟨m1, m2, m3⟩ | ⟨m1, m2, m3⟩
    · exact absurd (h33.mpr m1) x1
    · have hz := h.2.2.2.1.2 m1
      have e1 : ω 73 1 = τ 21 1 := hz.1.1 1 (by decide) (by decide)
      rw [m3, x3]
      refine RES_w (by rw [x2, hr', m2, e1]) ?_
      have hf := hcp.2.2.2.2
      have hcp2 := pE_cp hcp
      rw [pcX_1] at hcp2
      have t1 : ∀ x : Int, 0 ≤ x → x < 80 → q_up (q_cpy τ 21 0 1 0 80) 0 9 0 1 x = τ 21 x := fun x x0 x1 => by
        rw [q_up_n (by omega), cpy_s (by omega)]
        congr 1
        omega
      have hag := pM_ag t1
      have t9 : q_up (q_cpy τ 21 0 1 0 80) 0 9 0 0 9 = 0 := q_up_s
      have hp2 : pE (q_up σ1 8 2 0) σ1 := ⟨fun j _ _ => q_up_n (by omega), fun j _ _ => q_up_n (by omega), fun j _ _ => q_up_n (by omega), fun k j a b _ _ => q_up_n (by omega)⟩
      refine Rel_take h (pE_t hp2 (pE_t hcp2 (pE_t hz.1 (pE_s hag)))) (IPs_pE hz.2.1 hag) (KR_ag hz.2.1.2.1.2 t1 hz.2.2) (fun c hc => funext fun x => by rw [q_up_n (by omega), hf c x (by omega)]) (funext fun x => by rw [q_up_n (by omega), hf 0 x (by omega)]) (by rw [q_up_n (by omega), hf 91 1 (by omega)]) (by rw [q_up_n (by omega), hf 8 1 (by omega)]; exact h.1.1.2.1) (by rw [q_up_s, t9]) (by rw [t9]; decide) (fun c c0 c1 => funext fun x => by rw [q_up_n (fun z => c0 z.1), cpy_n (fun z => c1 z.1)]) (fun x hx => by rw [q_up_n (fun z => hx z.2), cpy_n (by omega)]) (fun k k0 k1 => ?_)
      rw [t9] at k1
      omega
