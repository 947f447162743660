/-! the law's cases: undo, image, back -/
/-- a picture taken from elsewhere, on both sides -/
theorem Rel_take {ω σ' τ τ1 : q_S} (h : Rel ω τ) (hp : pE σ' (pM (τ1 1))) (hpi : IPs (pM (τ1 1))) (hk : KR (τ1 1)) (eo : ∀ c : Int, (8 < c ∧ c ≤ 80 ∨ c = 92 ∨ c = 94 ∨ 104 ≤ c) → σ' c = ω c) (e0 : σ' 0 = ω 0) (e1 : σ' 91 1 = ω 91 1) (e81 : 0 ≤ σ' 8 1 ∧ σ' 8 1 < 9) (e82 : σ' 8 2 = τ1 0 9) (h9 : 0 ≤ τ1 0 9 ∧ τ1 0 9 ≤ 8) (to : ∀ c : Int, c ≠ 0 → c ≠ 1 → τ1 c = τ c) (t0 : ∀ x : Int, x ≠ 9 → τ1 0 x = τ 0 x) (hh : ∀ k : Int, 0 ≤ k → k < τ1 0 9 → pE (pcX σ' (slX σ' k)) (pM (blk τ1 (τ1 0 9 - 1 - k))) ∧ IPs (pM (blk τ1 (τ1 0 9 - 1 - k))) ∧ KR (blk τ1 (τ1 0 9 - 1 - k))) : Rel σ' τ1 := by
  obtain ⟨⟨hI, hM⟩, hP, ⟨h1, h2⟩, ⟨h3, h4⟩, h5, h6, h7⟩ := h
  have hps : IPs σ' := IPs_pE hpi hp
  refine ⟨⟨?_, ?_⟩, hp, ⟨e82, hh⟩, ⟨?_, fun hz => ?_⟩, ?_, ?_, ?_⟩
  · obtain ⟨i1, i2, i3, i4, i5, i6, i7⟩ := hI
    refine ⟨hps, e81, by omega, ?_, ?_, ?_, fun l l0 l1 => ?_⟩
    · rw [e1]; exact i4
    · rw [e1, eo 92 (by decide)]; exact i5
    · rw [e0]; exact i6
    · rw [eo (104 + 2 * l) (by omega)]
      exact i7 l l0 l1
  · exact IM_of hM hpi hk (fun c c0 c1 => to c (by omega) (by omega)) h9 (t0 28 (by decide)) (to 14 (by decide) (by decide)) (t0 34 (by decide)) (to 18 (by decide) (by decide))
  · rw [e0, t0 38 (by decide)]
    exact h3
  · rw [t0 38 (by decide)] at hz
    rw [to 21 (by decide) (by decide)]
    exact ⟨pE_t (pcX_o (fun c x a b => by rw [eo c (by omega)])) (h4 hz).1, (h4 hz).2⟩
  · unfold rT
    rw [e1, eo 92 (by decide), t0 28 (by decide), to 14 (by decide) (by decide)]
    exact h5
  · unfold rS
    rw [e0, eo 94 (by decide), t0 34 (by decide), to 17 (by decide) (by decide)]
    exact h6
  · intro l l0 l1
    rw [eo (104 + 2 * l) (by omega), eo (104 + 2 * l + 1) (by omega), to 18 (by decide) (by decide), to 19 (by decide) (by decide)]
    exact h7 l l0 l1
theorem cs_undo {ω τ σ' τ' : q_S} {s : q_S} {r r' : Option q_V} (h : Rel ω τ) (hx : ω 8 2 = 0 ∧ r = some (.inl (-2)) ∧ σ' = ω ∨ ω 8 2 ≠ 0 ∧ r = some (.inl (ω 8 2 - 1)) ∧ pcopied (q_up (q_up ω 8 1 ((ω 8 1 + 9 - 1).tmod 9)) 8 2 (ω 8 2 - 1)) σ' (10 + 7 * ((ω 8 1 + 9 - 1).tmod 9)) 1) (hm : ∃ z, r' = some z ∧ ((τ 0 9 = 0 ∧ z = .inl (-2) ∧ τ' = ovM τ s) ∨ (τ 0 9 ≠ 0 ∧ z = .inl (τ 0 9 - 1) ∧ τ' = ovM (q_cpy (q_up τ 0 9 (τ 0 9 - 1)) 8 (80 * (τ 0 9 - 1)) 1 0 80) s))) : RES r r' σ' τ' := by
  have h82 : ω 8 2 = τ 0 9 := h.2.2.1.1
  have hc9 := h.1.2.2.2.2.1
  obtain ⟨z, hr', hm⟩ := hm
  rcases hx with ⟨x1, x2, x3⟩ | ⟨x1, x2, x3⟩
  · rcases hm with ⟨m1, m2, m3⟩ | ⟨m1, m2, m3⟩
    · rw [m3, x3]
      exact RES_w (by rw [x2, hr', m2]) h
    · omega
  · rcases hm with ⟨m1, m2, m3⟩ | ⟨m1, m2, m3⟩
    · omega
    · rw [m3]
      refine RES_w (by rw [x2, hr', m2, h82]) ?_
      have h81 := h.1.1.2.1
      have em : (ω 8 1 + 9 - 1).tmod 9 = (ω 8 1 - 1 - 0) % 9 := by
        rw [Int.tmod_eq_emod_of_nonneg (by omega)]
        omega
      rw [em] at x3
      have hcp := pE_cp x3
      rw [pcX_1] at hcp
      have hf := x3.2.2.2.2
      have hs0 : pE (pcX (q_up (q_up ω 8 1 ((ω 8 1 - 1 - 0) % 9)) 8 2 (ω 8 2 - 1)) (10 + 7 * ((ω 8 1 - 1 - 0) % 9))) (pcX ω (slX ω 0)) := by
        refine pcX_o (fun c x a b => ?_)
        rw [q_up_n (by omega), q_up_n (by omega)]
      have hz := h.2.2.1.2 0 (by decide) (by omega)
      have t1 : ∀ x : Int, 0 ≤ x → x < 80 → q_cpy (q_up τ 0 9 (τ 0 9 - 1)) 8 (80 * (τ 0 9 - 1)) 1 0 80 1 x = blk τ (τ 0 9 - 1 - 0) x := fun x x0 x1 => by
        rw [cpy_s (by omega), q_up_n (by omega)]
        unfold blk
        congr 1
        omega
      have t9 : q_cpy (q_up τ 0 9 (τ 0 9 - 1)) 8 (80 * (τ 0 9 - 1)) 1 0 80 0 9 = τ 0 9 - 1 := by
        rw [cpy_n (by omega), q_up_s]
      have s81 : σ' 8 1 = (ω 8 1 - 1 - 0) % 9 := by
        rw [hf 8 1 (by omega), q_up_n (by omega), q_up_s]
      have s82 : σ' 8 2 = ω 8 2 - 1 := by
        rw [hf 8 2 (by omega), q_up_s]
      have eo : ∀ c : Int, (c ≤ 0 ∨ 8 < c) → σ' c = ω c := fun c hc => funext fun x => by
        rw [hf c x (by omega), q_up_n (by omega), q_up_n (by omega)]
      have hag := pM_ag t1
      refine Rel_take h (pE_t hcp (pE_t hs0 (pE_t hz.1 (pE_s hag)))) (IPs_pE hz.2.1 hag) (KR_ag hz.2.1.2.1.2 t1 hz.2.2) (fun c hc => eo c (by omega)) (eo 0 (by decide)) (by rw [eo 91 (by decide)]) (by rw [s81]; omega) (by rw [s82, t9, h82]) (by rw [t9]; omega) (fun c c0 c1 => funext fun x => by rw [cpy_n (fun z => c1 z.1), q_up_n (fun z => c0 z.1)]) (fun x hx => by rw [cpy_n (by omega), q_up_n (fun z => hx z.2)]) (fun k k0 k1 => ?_)
      rw [t9] at k1
      have es : slX σ' k = slX ω (k + 1) := by
        unfold slX
        rw [s81]
        omega
      have hb : ∀ j, blk (q_cpy (q_up τ 0 9 (τ 0 9 - 1)) 8 (80 * (τ 0 9 - 1)) 1 0 80) j = blk τ j := fun j => funext fun x => by
        unfold blk
        rw [cpy_n (by omega), q_up_n (by omega)]
      have hz2 := h.2.2.1.2 (k + 1) (by omega) (by omega)
      rw [t9, es, hb, show τ 0 9 - 1 - 1 - k = τ 0 9 - 1 - (k + 1) by omega]
      have hr := @slX_rng ω (k + 1)
      exact ⟨pE_t (pcX_o (fun c x a b => by rw [eo c (by omega)])) hz2.1, hz2.2⟩
