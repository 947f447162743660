/-! the law's cases: calls, feed, lists, prints, into, reads -/
theorem fin_pos {a : Int} {t : q_S} (h : 0 ≤ a) : fin (a, t) = stl t := if_pos h
theorem cs_calls {σ τ σ' τ' : q_S} {r r' : Option q_V} {v L w : Int} (h : Rel σ τ) (hce : cE σ (pM (τ 1))) (hx : r = some (.inl (fCalls (σ 1 1) (σ 1 2) (σ 2) (σ 3) (σ 6) (σ 7) v L w)) ∧ (((fCalls (σ 1 1) (σ 1 2) (σ 2) (σ 3) (σ 6) (σ 7) v L w) < 0 ∧ ∃ s', σ' = ov σ s') ∨ (((0 ≤ v ∧ v < σ 1 2) ∧ (0 ≤ L ∧ L < 3) ∧ (w = 0 ∨ w = 1)) ∧ (wF L (ak2 (akA (σ 2) (σ 3) (σ 1 1) (σ 6 v) (σ 7 v)) (σ 6 v) w)).2.2 ≠ 0 ∧ 0 ≤ (fCalls (σ 1 1) (σ 1 2) (σ 2) (σ 3) (σ 6) (σ 7) v L w) ∧ ∃ σ1 s', pcopied σ σ1 1 (10 + 7 * σ 8 1) ∧ σ' = ov (stl (clK (akA (σ 2) (σ 3) (σ 1 1) (σ 6 v) (σ 7 v)).2.1 (wF L (ak2 (akA (σ 2) (σ 3) (σ 1 1) (σ 6 v) (σ 7 v)) (σ 6 v) w)).2.1 (akA (σ 2) (σ 3) (σ 1 1) (σ 6 v) (σ 7 v)).2.2.2.2.toNat 0 σ1)) s'))) (hm : ∃ z, r' = some z ∧ (z = .inl ((oC v L w (pM (τ 1))).1) ∧ chM τ (oC v L w (pM (τ 1))) τ')) : RES r r' σ' τ' := by
  rw [cE_1 hce, cE_2 hce, cE_3 hce, cE_6 hce, cE_7 hce] at hx
  obtain ⟨z, hr', hz, hch⟩ := hm
  obtain ⟨hr, hx⟩ := hx
  have e1 : r = r' := by
    rw [hr, hr', hz]
    rfl
  rcases hx with ⟨hneg, s', hs⟩ | ⟨_, _, hpos, σ1, s', hcp, hs⟩
  · rcases hch with ⟨h0, _⟩ | ⟨_, s2, e2⟩
    · have h0 : 0 ≤ fCalls (pM (τ 1) 1 1) (pM (τ 1) 1 2) (pM (τ 1) 2) (pM (τ 1) 3) (pM (τ 1) 6) (pM (τ 1) 7) v L w := h0
      omega
    · exact ⟨e1, σ, s', τ, s2, hs, e2, h⟩
  · have h8 := h.1.1.2.1
    have hce1 : cE σ1 (pM (τ 1)) := fun c a b => (cp_o h8 hcp (by omega)).trans (hce c a b)
    have ep2 : (oC v L w (pM (τ 1))).2 = clK (akA (pM (τ 1) 2) (pM (τ 1) 3) (pM (τ 1) 1 1) (pM (τ 1) 6 v) (pM (τ 1) 7 v)).2.1 (wF L (ak2 (akA (pM (τ 1) 2) (pM (τ 1) 3) (pM (τ 1) 1 1) (pM (τ 1) 6 v) (pM (τ 1) 7 v)) (pM (τ 1) 6 v) w)).2.1 (akA (pM (τ 1) 2) (pM (τ 1) 3) (pM (τ 1) 1 1) (pM (τ 1) 6 v) (pM (τ 1) 7 v)).2.2.2.2.toNat 0 (pM (τ 1)) := if_pos hpos
    have hi := IPs_oC (v := v) (L := L) (w := w) h.1.2.1
    have hc2 := clK_c (ow := (akA (pM (τ 1) 2) (pM (τ 1) 3) (pM (τ 1) 1 1) (pM (τ 1) 6 v) (pM (τ 1) 7 v)).2.1) (fi := (wF L (ak2 (akA (pM (τ 1) 2) (pM (τ 1) 3) (pM (τ 1) 1 1) (pM (τ 1) 6 v) (pM (τ 1) 7 v)) (pM (τ 1) 6 v) w)).2.1) (akA (pM (τ 1) 2) (pM (τ 1) 3) (pM (τ 1) 1 1) (pM (τ 1) 6 v) (pM (τ 1) 7 v)).2.2.2.2.toNat 0 _ _ hce1
    rw [← ep2] at hc2
    obtain ⟨e, τ1, s2, e2, hR⟩ := chg (p := (fCalls (pM (τ 1) 1 1) (pM (τ 1) 1 2) (pM (τ 1) 2) (pM (τ 1) 3) (pM (τ 1) 6) (pM (τ 1) 7) v L w, clK (akA (pM (τ 1) 2) (pM (τ 1) 3) (pM (τ 1) 1 1) (pM (τ 1) 6 v) (pM (τ 1) 7 v)).2.1 (wF L (ak2 (akA (pM (τ 1) 2) (pM (τ 1) 3) (pM (τ 1) 1 1) (pM (τ 1) 6 v) (pM (τ 1) 7 v)) (pM (τ 1) 6 v) w)).2.1 (akA (pM (τ 1) 2) (pM (τ 1) 3) (pM (τ 1) 1 1) (pM (τ 1) 6 v) (pM (τ 1) 7 v)).2.2.2.2.toNat 0 σ1)) (p' := oC v L w (pM (τ 1))) h hcp (IPs_pE hi (cE_pE hc2)) ⟨rfl, hc2⟩ (fun c hc => clK_o _ _ _ _ (by omega)) (fun z => absurd hpos (by omega)) hch
    rw [fin_pos hpos] at hR
    exact ⟨e1, _, s', τ1, s2, hs, e2, hR⟩
/-- rows and texts changed, the rest kept -/
theorem Rel_x {σ σ' τ τ' : q_S} (h : Rel σ τ) (eX : ∀ c : Int, 1 ≤ c → c ≤ 80 → σ' c = σ c) (e0 : σ' 0 3 = σ 0 3) (eM : ∀ c : Int, 1 ≤ c → c ≤ 8 → τ' c = τ c) (e21 : τ' 21 = τ 21) (t9 : τ' 0 9 = τ 0 9) (t38 : τ' 0 38 = τ 0 38) (i4 : 0 ≤ σ' 91 1 ∧ σ' 91 1 ≤ 120) (i5 : ∀ k : Int, 0 ≤ k → k < σ' 91 1 → 1 ≤ σ' 92 k ∧ σ' 92 k ≤ 127) (i6 : 0 ≤ σ' 0 11 ∧ σ' 0 11 ≤ 6) (i7 : ∀ l : Int, 0 ≤ l → l < 3 → -1 ≤ σ' (104 + 2 * l) 1 ∧ σ' (104 + 2 * l) 1 ≤ 24) (hT : rT σ' τ') (hS : rS σ' τ') (hL : rL σ' τ') : Rel σ' τ' := by
  obtain ⟨⟨hI, hM⟩, hP, ⟨h1, h2⟩, ⟨h3, h4⟩, _, _, _⟩ := h
  have t1 : τ' 1 = τ 1 := eM 1 (by decide) (by decide)
  have ep : ∀ p : Int, 1 ≤ p → p ≤ 74 → pE (pcX σ' p) (pcX σ p) := fun p hp hp2 => pcX_o (fun c x a b => by rw [eX c (by omega) (by omega)])
  have e8 : σ' 8 = σ 8 := eX 8 (by decide) (by decide)
  have es : ∀ k, slX σ' k = slX σ k := fun k => by
    unfold slX
    rw [e8]
  have hb : ∀ j, blk τ' j = blk τ j := fun j => by
    unfold blk
    rw [eM 8 (by decide) (by decide)]
  refine ⟨⟨?_, ?_⟩, ?_, ⟨?_, fun k k0 k1 => ?_⟩, ⟨?_, fun hz => ?_⟩, hT, hS, hL⟩
  · unfold IX
    rw [eX 1 (by decide) (by decide), eX 2 (by decide) (by decide), eX 3 (by decide) (by decide), eX 4 (by decide) (by decide), eX 5 (by decide) (by decide), eX 6 (by decide) (by decide), eX 7 (by decide) (by decide), e8]
    exact ⟨hI.1, hI.2.1, hI.2.2.1, i4, i5, i6, i7⟩
  · unfold IM
    obtain ⟨m1, m2, m3, m4, _, _, _, _⟩ := hM
    rw [t1, t9, eM 2 (by decide) (by decide), eM 3 (by decide) (by decide), eM 4 (by decide) (by decide), eM 5 (by decide) (by decide), eM 6 (by decide) (by decide), eM 7 (by decide) (by decide)]
    refine ⟨m1, m2, m3, m4, ?_, fun k k0 k1 => ?_, ?_, fun l l0 l1 => ?_⟩
    · rw [← hT.1]
      exact i4
    · rw [← hT.2 k k0 k1]
      exact i5 k k0 (by rw [hT.1]; exact k1)
    · rw [← hS.1]
      exact i6
    · rw [← (hL l l0 l1).1]
      exact i7 l l0 l1
  · unfold rP
    rw [t1]
    have hz := ep 1 (by decide) (by decide)
    rw [pcX_1, pcX_1] at hz
    exact pE_t hz hP
  · rw [e8, t9]
    exact h1
  · rw [t9] at k1 ⊢
    rw [es, hb]
    have hr := @slX_rng σ k
    exact ⟨pE_t (ep _ (by omega) (by omega)) (h2 k k0 k1).1, (h2 k k0 k1).2⟩
  · rw [e0, t38]
    exact h3
  · rw [t38] at hz
    rw [e21]
    exact ⟨pE_t (ep 73 (by decide) (by decide)) (h4 hz).1, (h4 hz).2⟩
theorem cs_feed {σ τ σ' τ' s : q_S} {r r' : Option q_V} {x : Int} (h : Rel σ τ) (hx : ∃ v, r = some v ∧ ((¬ (1 ≤ x ∧ x ≤ 127) ∧ v = .inl (-1) ∨ (1 ≤ x ∧ x ≤ 127) ∧ σ 91 1 = 120 ∧ v = .inl (-3)) ∧ σ' = σ ∨ (1 ≤ x ∧ x ≤ 127) ∧ σ 91 1 < 120 ∧ v = .inl (σ 91 1 + 1) ∧ σ' = q_up (q_up σ 92 (σ 91 1) x) 91 1 (σ 91 1 + 1))) (hm : ∃ z, r' = some z ∧ ((¬ (1 ≤ x ∧ x ≤ 127) ∧ z = .inl (-1) ∧ τ' = ovM τ s) ∨ ((1 ≤ x ∧ x ≤ 127) ∧ τ 0 28 = 120 ∧ z = .inl (-3) ∧ τ' = ovM τ s) ∨ ((1 ≤ x ∧ x ≤ 127) ∧ τ 0 28 < 120 ∧ z = .inl (τ 0 28 + 1) ∧ τ' = ovM (q_up (q_up τ 14 (τ 0 28) x) 0 28 (τ 0 28 + 1)) s))) : RES r r' σ' τ' := by
  obtain ⟨v, hr, hx⟩ := hx
  obtain ⟨z, hr', hm⟩ := hm
  have e91 : σ 91 1 = τ 0 28 := h.2.2.2.2.1.1
  have ag0 := h.2.2.2.2.1.2
  obtain ⟨_, _, _, i4, i5, i6, i7⟩ := h.1.1
  rcases hx with ⟨⟨a, b⟩ | ⟨a, a2, b⟩, e⟩ | ⟨a, a2, b, e⟩
  · rcases hm with ⟨m, n, t⟩ | ⟨m, m2, n, t⟩ | ⟨m, m2, n, t⟩
    · rw [e, t]
      exact RES_w (by rw [hr, hr', b, n]) h
    · exact absurd m a
    · exact absurd m a
  · rcases hm with ⟨m, n, t⟩ | ⟨m, m2, n, t⟩ | ⟨m, m2, n, t⟩
    · exact absurd a m
    · rw [e, t]
      exact RES_w (by rw [hr, hr', b, n]) h
    · omega
  · rcases hm with ⟨m, n, t⟩ | ⟨m, m2, n, t⟩ | ⟨m, m2, n, t⟩
    · exact absurd a m
    · omega
    · rw [e, t]
      refine RES_w (by rw [hr, hr', b, n, e91]) ?_
      have x91 : q_up (q_up σ 92 (σ 91 1) x) 91 1 (σ 91 1 + 1) 91 1 = σ 91 1 + 1 := q_up_s
      have y28 : q_up (q_up τ 14 (τ 0 28) x) 0 28 (τ 0 28 + 1) 0 28 = τ 0 28 + 1 := q_up_s
      refine Rel_x h (fun c c0 c1 => by rw [q_up_o (by omega), q_up_o (by omega)]) (by rw [q_up_n (by omega), q_up_n (by omega)]) (fun c c0 c1 => by rw [q_up_o (by omega), q_up_o (by omega)]) (by rw [q_up_o (by omega), q_up_o (by omega)]) (by rw [q_up_n (by omega), q_up_n (by omega)]) (by rw [q_up_n (by omega), q_up_n (by omega)]) (by rw [x91]; omega) (fun k k0 k1 => ?_) (by rw [q_up_n (by omega), q_up_n (by omega)]; exact i6) (fun l l0 l1 => by rw [q_up_n (by omega), q_up_n (by omega)]; exact i7 l l0 l1) ⟨by rw [x91, y28, e91], fun k k0 k1 => ?_⟩ ⟨?_, fun k k0 k1 => ?_⟩ (fun l l0 l1 => ⟨?_, fun j j0 j1 => ?_⟩)
      · rw [x91] at k1
        by_cases ek : k = σ 91 1
        · rw [q_up_n (by omega), ek, q_up_s]
          exact a
        · rw [q_up_n (by omega), q_up_n (by omega)]
          exact i5 k k0 (by omega)
      · rw [y28] at k1
        by_cases ek : k = τ 0 28
        · rw [ek, ← e91, q_up_n (by omega), q_up_s, q_up_n (by omega), q_up_s]
        · rw [q_up_n (by omega), q_up_n (by omega), q_up_n (by omega), q_up_n (by omega)]
          exact ag0 k k0 (by omega)
      · rw [q_up_n (by omega), q_up_n (by omega), q_up_n (by omega), q_up_n (by omega)]
        exact h.2.2.2.2.2.1.1
      · rw [q_up_n (by omega), q_up_n (by omega)] at k1
        rw [q_up_n (by omega), q_up_n (by omega), q_up_n (by omega), q_up_n (by omega)]
        exact h.2.2.2.2.2.1.2 k k0 k1
      · rw [q_up_n (by omega), q_up_n (by omega), q_up_n (by omega), q_up_n (by omega)]
        exact (h.2.2.2.2.2.2 l l0 l1).1
      · rw [q_up_n (by omega), q_up_n (by omega), q_up_n (by omega), q_up_n (by omega)]
        exact (h.2.2.2.2.2.2 l l0 l1).2 j j0 j1
/-- only the lists are another -/
theorem Rel_l {σ σ' τ τ' : q_S} (h : Rel σ τ) (eX : ∀ c : Int, c ≤ 103 → σ' c = σ c) (eM : ∀ c : Int, c ≠ 18 → c ≠ 19 → τ' c = τ c) (i7 : ∀ l : Int, 0 ≤ l → l < 3 → -1 ≤ σ' (104 + 2 * l) 1 ∧ σ' (104 + 2 * l) 1 ≤ 24) (hL : rL σ' τ') : Rel σ' τ' := by
  obtain ⟨_, _, _, i4, i5, i6, _⟩ := h.1.1
  have e0 := eX 0 (by decide)
  have t0 := eM 0 (by decide) (by decide)
  refine Rel_x h (fun c c0 c1 => eX c (by omega)) (by rw [e0]) (fun c c0 c1 => eM c (by omega) (by omega)) (eM 21 (by decide) (by decide)) (by rw [t0]) (by rw [t0]) (by rw [eX 91 (by decide)]; exact i4) (by rw [eX 91 (by decide), eX 92 (by decide)]; exact i5) (by rw [e0]; exact i6) i7 ?_ ?_ hL
  · unfold rT
    rw [eX 91 (by decide), eX 92 (by decide), t0, eM 14 (by decide) (by decide)]
    exact h.2.2.2.2.1
  · unfold rS
    rw [e0, eX 94 (by decide), t0, eM 17 (by decide) (by decide)]
    exact h.2.2.2.2.2.1
theorem cs_list {σ τ σ' τ' s : q_S} {r r' : Option q_V} {l n : Int} (h : Rel σ τ) (hx : ∃ v, r = some v ∧ ((¬ (0 ≤ l ∧ l < 3) ∨ 24 < n) ∧ v = .inl (-1) ∧ σ' = σ ∨ ((0 ≤ l ∧ l < 3) ∧ n < 0) ∧ v = .inl (-14) ∧ σ' = σ ∨ ((0 ≤ l ∧ l < 3) ∧ 0 ≤ n ∧ n ≤ 24) ∧ v = .inl 1 ∧ σ' = q_up (q_row σ (104 + 2 * l + 1) (fun j => if 0 ≤ j ∧ j < 24 then 0 else σ (104 + 2 * l + 1) j)) (104 + 2 * l) 1 n)) (hm : ∃ z, r' = some z ∧ (((¬ (0 ≤ l ∧ l < 3) ∨ 24 < n) ∧ z = .inl (-1) ∧ τ' = ovM τ s) ∨ (((0 ≤ l ∧ l < 3) ∧ n < 0) ∧ z = .inl (-14) ∧ τ' = ovM τ s) ∨ (((0 ≤ l ∧ l < 3) ∧ 0 ≤ n ∧ n ≤ 24) ∧ z = .inl 1 ∧ τ' = ovM (q_row (q_up τ 18 l n) 19 (fun x => if 24 * l ≤ x ∧ x < 24 * l + 24 then 0 else τ 19 x)) s))) : RES r r' σ' τ' := by
  obtain ⟨v, hr, hx⟩ := hx
  obtain ⟨z, hr', hm⟩ := hm
  have i7 := h.1.1.2.2.2.2.2.2
  have hL := h.2.2.2.2.2.2
  rcases hx with ⟨a, b, e⟩ | ⟨a, b, e⟩ | ⟨a, b, e⟩
  · rcases hm with ⟨m, n, t⟩ | ⟨m, n, t⟩ | ⟨m, n, t⟩
    · rw [e, t]
      exact RES_w (by rw [hr, hr', b, n]) h
    · omega
    · omega
  · rcases hm with ⟨m, n, t⟩ | ⟨m, n, t⟩ | ⟨m, n, t⟩
    · omega
    · rw [e, t]
      exact RES_w (by rw [hr, hr', b, n]) h
    · omega
  · rcases hm with ⟨m, m2, t⟩ | ⟨m, m2, t⟩ | ⟨m, m2, t⟩
    · omega
    · omega
    · rw [e, t]
      refine RES_w (by rw [hr, hr', b, m2]) ?_
      refine Rel_l h (fun c c1 => by rw [q_up_o (by omega), q_row_o (by omega)]) (fun c c0 c1 => by rw [q_row_o c1, q_up_o c0]) (fun l2 l0 l1 => ?_) (fun l2 l0 l1 => ⟨?_, fun j j0 j1 => ?_⟩)
      · by_cases el : l2 = l
        · rw [el, q_up_s]
          omega
        · rw [q_up_n (by omega), q_row_o (by omega)]
          exact i7 l2 l0 l1
      · rw [q_row_o (by decide)]
        by_cases el : l2 = l
        · rw [el, q_up_s, q_up_s]
        · rw [q_up_n (by omega), q_row_o (by omega), q_up_n (by omega)]
          exact (hL l2 l0 l1).1
      · rw [q_up_n (by omega), q_row_s]
        by_cases el : l2 = l
        · rw [el, q_row_s, if_pos ⟨j0, j1⟩, if_pos ⟨by omega, by omega⟩]
        · rw [q_row_o (by omega), if_neg (by omega)]
          exact (hL l2 l0 l1).2 j j0 j1
theorem cs_set {σ τ σ' τ' s : q_S} {r r' : Option q_V} {l i x : Int} (h : Rel σ τ) (hx : ∃ v, r = some v ∧ (¬ (0 ≤ l ∧ l < 3) ∧ v = .inl (-1) ∧ σ' = σ ∨ ((0 ≤ l ∧ l < 3) ∧ σ (104 + 2 * l) 1 < 0) ∧ v = .inl (-11) ∧ σ' = σ ∨ ((0 ≤ l ∧ l < 3) ∧ 0 ≤ σ (104 + 2 * l) 1 ∧ ¬ (0 ≤ i ∧ i < σ (104 + 2 * l) 1)) ∧ v = .inl (-13) ∧ σ' = σ ∨ ((0 ≤ l ∧ l < 3) ∧ 0 ≤ i ∧ i < σ (104 + 2 * l) 1) ∧ v = .inl 1 ∧ σ' = q_up σ (104 + 2 * l + 1) i x)) (hm : ∃ z, r' = some z ∧ ((¬ (0 ≤ l ∧ l < 3) ∧ z = .inl (-1) ∧ τ' = ovM τ s) ∨ (((0 ≤ l ∧ l < 3) ∧ τ 18 l < 0) ∧ z = .inl (-11) ∧ τ' = ovM τ s) ∨ (((0 ≤ l ∧ l < 3) ∧ 0 ≤ τ 18 l ∧ ¬ (0 ≤ i ∧ i < τ 18 l)) ∧ z = .inl (-13) ∧ τ' = ovM τ s) ∨ (((0 ≤ l ∧ l < 3) ∧ 0 ≤ i ∧ i < τ 18 l) ∧ z = .inl 1 ∧ τ' = ovM (q_up τ 19 (24 * l + i) x) s))) : RES r r' σ' τ' := by
  obtain ⟨v, hr, hx⟩ := hx
  obtain ⟨z, hr', hm⟩ := hm
  have i7 := h.1.1.2.2.2.2.2.2
  have hL := h.2.2.2.2.2.2
  by_cases hl : 0 ≤ l ∧ l < 3
  · have e1 := (hL l hl.1 hl.2).1
    have i71 := i7 l hl.1 hl.2
    rcases hx with ⟨a, b, e⟩ | ⟨a, b, e⟩ | ⟨a, b, e⟩ | ⟨a, b, e⟩
    · exact absurd hl a
    · rcases hm with ⟨m, n, t⟩ | ⟨m, n, t⟩ | ⟨m, n, t⟩ | ⟨m, n, t⟩
      · exact absurd hl m
      · rw [e, t]
        exact RES_w (by rw [hr, hr', b, n]) h
      · omega
      · omega
    · rcases hm with ⟨m, n, t⟩ | ⟨m, n, t⟩ | ⟨m, n, t⟩ | ⟨m, n, t⟩
      · exact absurd hl m
      · omega
      · rw [e, t]
        exact RES_w (by rw [hr, hr', b, n]) h
      · omega
    · rcases hm with ⟨m, n, t⟩ | ⟨m, n, t⟩ | ⟨m, n, t⟩ | ⟨m, n, t⟩
      · exact absurd hl m
      · omega
      · omega
      · rw [e, t]
        refine RES_w (by rw [hr, hr', b, n]) ?_
        refine Rel_l h (fun c c1 => by rw [q_up_o (by omega)]) (fun c c0 c1 => by rw [q_up_o c1]) (fun l2 l0 l1 => by rw [q_up_n (by omega)]; exact i7 l2 l0 l1) (fun l2 l0 l1 => ⟨?_, fun j j0 j1 => ?_⟩)
        · rw [q_up_n (by omega), q_up_n (by omega)]
          exact (hL l2 l0 l1).1
        · by_cases el : l2 = l ∧ j = i
          · rw [el.1, el.2, q_up_s, q_up_s]
          · rw [q_up_n (by omega), q_up_n (by omega)]
            exact (hL l2 l0 l1).2 j j0 j1
  · rcases hx with ⟨a, b, e⟩ | ⟨a, b, e⟩ | ⟨a, b, e⟩ | ⟨a, b, e⟩
    · rcases hm with ⟨m, n, t⟩ | ⟨m, n, t⟩ | ⟨m, n, t⟩ | ⟨m, n, t⟩
      · rw [e, t]
        exact RES_w (by rw [hr, hr', b, n]) h
      · exact absurd m.1 hl
      · exact absurd m.1 hl
      · exact absurd m.1 hl
    · exact absurd a.1 hl
    · exact absurd a.1 hl
    · exact absurd a.1 hl
