/-! the law's cases: into, prints, reads -/
theorem cs_into {σ τ σ' τ' : q_S} {r r' : Option q_V} {v l p : Int} (h : Rel σ τ) (hce : cE σ (pM (τ 1))) (hx : ∃ v_, r = some v_ ∧ ((¬ (0 ≤ v ∧ v < σ 1 2) ∨ ¬ (0 ≤ l ∧ l < 3)) ∧ v_ = .inl (-1) ∧ (∃ s', σ' = ov σ s') ∨ ((0 ≤ v ∧ v < σ 1 2) ∧ (0 ≤ l ∧ l < 3) ∧ σ (104 + 2 * l) 1 < 0) ∧ v_ = .inl (-11) ∧ (∃ s', σ' = ov σ s') ∨ ((0 ≤ v ∧ v < σ 1 2) ∧ (0 ≤ l ∧ l < 3) ∧ ¬ σ (104 + 2 * l) 1 < 0 ∧ p < 0) ∧ v_ = .inl (-13) ∧ (∃ s', σ' = ov σ s') ∨ ((0 ≤ v ∧ v < σ 1 2) ∧ (0 ≤ l ∧ l < 3) ∧ ¬ σ (104 + 2 * l) 1 < 0 ∧ ¬ p < 0 ∧ ¬ balb (σ 2) (σ 1 1) (σ 6 v) (σ 7 v) = true) ∧ v_ = .inl (-2) ∧ (∃ s', σ' = ov σ s') ∨ ((0 ≤ v ∧ v < σ 1 2) ∧ (0 ≤ l ∧ l < 3) ∧ ¬ σ (104 + 2 * l) 1 < 0 ∧ ¬ p < 0 ∧ balb (σ 2) (σ 1 1) (σ 6 v) (σ 7 v) = true) ∧ v_ = .inl (inL (tnF (σ 2) (σ 1 0) (σ 4 v) (σ 5 v) (mF (σ 6 v) (σ 7 v) (σ 1 1))) p (σ (104 + 2 * l) 1) (4 * (mC (σ 6 v) (σ 7 v) (σ 1 1))).toNat 0 (σ (104 + 2 * l + 1))).1 ∧ ∃ s', σ' = ov (q_row σ (104 + 2 * l + 1) (inL (tnF (σ 2) (σ 1 0) (σ 4 v) (σ 5 v) (mF (σ 6 v) (σ 7 v) (σ 1 1))) p (σ (104 + 2 * l) 1) (4 * (mC (σ 6 v) (σ 7 v) (σ 1 1))).toNat 0 (σ (104 + 2 * l + 1))).2) s')) (hm : ∃ z, r' = some z ∧ (((¬ (0 ≤ v ∧ v < τ 1 2) ∨ ¬ (0 ≤ l ∧ l < 3)) ∧ z = .inl (-1) ∧ (∃ s', τ' = ovM τ s')) ∨ (((0 ≤ v ∧ v < τ 1 2) ∧ (0 ≤ l ∧ l < 3) ∧ τ 18 l < 0) ∧ z = .inl (-11) ∧ (∃ s', τ' = ovM τ s')) ∨ (((0 ≤ v ∧ v < τ 1 2) ∧ (0 ≤ l ∧ l < 3) ∧ ¬ τ 18 l < 0 ∧ p < 0) ∧ z = .inl (-13) ∧ (∃ s', τ' = ovM τ s')) ∨ (((0 ≤ v ∧ v < τ 1 2) ∧ (0 ≤ l ∧ l < 3) ∧ ¬ τ 18 l < 0 ∧ ¬ p < 0 ∧ ¬ balb (pM (τ 1) 2) (τ 1 1) (pM (τ 1) 6 v) (pM (τ 1) 7 v) = true) ∧ z = .inl (-2) ∧ (∃ s', τ' = ovM τ s')) ∨ (((0 ≤ v ∧ v < τ 1 2) ∧ (0 ≤ l ∧ l < 3) ∧ ¬ τ 18 l < 0 ∧ ¬ p < 0 ∧ balb (pM (τ 1) 2) (τ 1 1) (pM (τ 1) 6 v) (pM (τ 1) 7 v) = true) ∧ z = .inl (inL (tnF (pM (τ 1) 2) (τ 1 0) (pM (τ 1) 4 v) (pM (τ 1) 5 v) (mF (pM (τ 1) 6 v) (pM (τ 1) 7 v) (τ 1 1))) p (τ 18 l) (4 * mC (pM (τ 1) 6 v) (pM (τ 1) 7 v) (τ 1 1)).toNat 0 (fun j => τ 19 (24 * l + j))).1 ∧ ∃ s', τ' = ovM (q_row τ 19 (fun x => if 24 * l ≤ x ∧ x < 24 * l + 24 then (inL (tnF (pM (τ 1) 2) (τ 1 0) (pM (τ 1) 4 v) (pM (τ 1) 5 v) (mF (pM (τ 1) 6 v) (pM (τ 1) 7 v) (τ 1 1))) p (τ 18 l) (4 * mC (pM (τ 1) 6 v) (pM (τ 1) 7 v) (τ 1 1)).toNat 0 (fun j => τ 19 (24 * l + j))).2 (x - 24 * l) else τ 19 x)) s'))) : RES r r' σ' τ' := by
  obtain ⟨w, hr, hx⟩ := hx
  obtain ⟨z, hr', hm⟩ := hm
  have i7 := h.1.1.2.2.2.2.2.2
  have hL := h.2.2.2.2.2.2
  rw [cE_1 hce, cE_2 hce, cE_6 hce, cE_7 hce, hce 4 (by decide) (by decide), hce 5 (by decide) (by decide)] at hx
  have p1 : pM (τ 1) 1 = τ 1 := rfl
  rw [p1] at hx
  have hee : (0 ≤ l ∧ l < 3) → σ (104 + 2 * l) 1 = τ 18 l := fun hl => (hL l hl.1 hl.2).1
  have nil : ∀ {a b : q_V}, w = a → z = b → a = b → (∃ s', σ' = ov σ s') → (∃ s', τ' = ovM τ s') → RES r r' σ' τ' := fun ha hb hab ⟨s1, e1⟩ ⟨s2, e2⟩ => ⟨by rw [hr, hr', ha, hb, hab], σ, s1, τ, s2, e1, e2, h⟩
  rcases hx with ⟨a, b, e⟩ | ⟨a, b, e⟩ | ⟨a, b, e⟩ | ⟨a, b, e⟩ | ⟨a, b, e⟩
  · rcases hm with ⟨m, n, t⟩ | ⟨m, n, t⟩ | ⟨m, n, t⟩ | ⟨m, n, t⟩ | ⟨m, n, t⟩
    · exact nil b n rfl e t
    · exfalso
      rcases a with a | a
      · exact a m.1
      · exact a m.2.1
    · exfalso
      rcases a with a | a
      · exact a m.1
      · exact a m.2.1
    · exfalso
      rcases a with a | a
      · exact a m.1
      · exact a m.2.1
    · exfalso
      rcases a with a | a
      · exact a m.1
      · exact a m.2.1
  · have he := hee a.2.1
    rcases hm with ⟨m, n, t⟩ | ⟨m, n, t⟩ | ⟨m, n, t⟩ | ⟨m, n, t⟩ | ⟨m, n, t⟩
    · exfalso
      rcases m with m | m
      · exact m a.1
      · exact m a.2.1
    · exact nil b n rfl e t
    · exact absurd (he ▸ a.2.2) m.2.2.1
    · exact absurd (he ▸ a.2.2) m.2.2.1
    · exact absurd (he ▸ a.2.2) m.2.2.1
  · have he := hee a.2.1
    rcases hm with ⟨m, n, t⟩ | ⟨m, n, t⟩ | ⟨m, n, t⟩ | ⟨m, n, t⟩ | ⟨m, n, t⟩
    · exfalso
      rcases m with m | m
      · exact m a.1
      · exact m a.2.1
    · exact absurd m.2.2 (he ▸ a.2.2.1)
    · exact nil b n rfl e t
    · exact absurd a.2.2.2 m.2.2.2.1
    · exact absurd a.2.2.2 m.2.2.2.1
  · have he := hee a.2.1
    rcases hm with ⟨m, n, t⟩ | ⟨m, n, t⟩ | ⟨m, n, t⟩ | ⟨m, n, t⟩ | ⟨m, n, t⟩
    · exfalso
      rcases m with m | m
      · exact m a.1
      · exact m a.2.1
    · exact absurd m.2.2 (he ▸ a.2.2.1)
    · exact absurd m.2.2.2 a.2.2.2.1
    · exact nil b n rfl e t
    · exact absurd m.2.2.2.2 a.2.2.2.2
  · have he := hee a.2.1
    rcases hm with ⟨m, n, t⟩ | ⟨m, n, t⟩ | ⟨m, n, t⟩ | ⟨m, n, t⟩ | ⟨m, n, t⟩
    · exfalso
      rcases m with m | m
      · exact m a.1
      · exact m a.2.1
    · exact absurd m.2.2 (he ▸ a.2.2.1)
    · exact absurd m.2.2.2 a.2.2.2.1
    · exact absurd a.2.2.2.2 m.2.2.2.2
    · obtain ⟨s1, e⟩ := e
      obtain ⟨s2, t⟩ := t
      obtain ⟨_, ⟨l0, l1⟩, _⟩ := a
      rw [he] at b e
      have hag := inL_ag (tn := tnF (pM (τ 1) 2) (τ 1 0) (pM (τ 1) 4 v) (pM (τ 1) 5 v) (mF (pM (τ 1) 6 v) (pM (τ 1) 7 v) (τ 1 1))) (p := p) (sz := τ 18 l) (4 * mC (pM (τ 1) 6 v) (pM (τ 1) 7 v) (τ 1 1)).toNat 0 (σ (104 + 2 * l + 1)) (fun j => τ 19 (24 * l + j)) (fun j j0 j1 => (hL l l0 l1).2 j j0 j1)
      revert b e n t hag
      generalize inL (tnF (pM (τ 1) 2) (τ 1 0) (pM (τ 1) 4 v) (pM (τ 1) 5 v) (mF (pM (τ 1) 6 v) (pM (τ 1) 7 v) (τ 1 1))) p (τ 18 l) (4 * mC (pM (τ 1) 6 v) (pM (τ 1) 7 v) (τ 1 1)).toNat 0 (σ (104 + 2 * l + 1)) = A
      generalize inL (tnF (pM (τ 1) 2) (τ 1 0) (pM (τ 1) 4 v) (pM (τ 1) 5 v) (mF (pM (τ 1) 6 v) (pM (τ 1) 7 v) (τ 1 1))) p (τ 18 l) (4 * mC (pM (τ 1) 6 v) (pM (τ 1) 7 v) (τ 1 1)).toNat 0 (fun j => τ 19 (24 * l + j)) = B
      intro b n e t hag
      refine ⟨by rw [hr, hr', b, n, hag.1], _, s1, _, s2, e, t, ?_⟩
      refine Rel_l h (fun c c1 => q_row_o (by omega)) (fun c c0 c1 => q_row_o c1) (fun l2 l0 l1 => by rw [q_row_o (by omega)]; exact i7 l2 l0 l1) (fun l2 m0 m1 => ⟨?_, fun j j0 j1 => ?_⟩)
      · rw [q_row_o (by omega), q_row_o (by omega)]
        exact (hL l2 m0 m1).1
      · rw [q_row_s]
        by_cases el : l2 = l
        · rw [el, q_row_s, if_pos ⟨by omega, by omega⟩, show 24 * l + j - 24 * l = j by omega]
          exact hag.2 j j0 j1
        · rw [q_row_o (by omega), if_neg (by omega)]
          exact (hL l2 m0 m1).2 j j0 j1
theorem prL_nb {kd : Int → Int} {b : Int} : ∀ (n : Nat) (i : Int) (s : (Int → Int) × Int), (prL kd b n i s).2 = s.2 + nbL b n i := by
  intro n
  induction n with
  | zero => intro i s; rw [prL, nbL]; omega
  | succ n ih =>
    intro i s
    rw [prL, nbL, ih]
    by_cases e : q_and (q_shr b i) 1 = 1
    · rw [if_pos e, if_pos e]
      show s.2 + 1 + nbL b n (i + 1) = _
      omega
    · rw [if_neg e, if_neg e]
      omega
theorem prF_6 {kd g : Int → Int} {nt a b : Int} (hn : 0 ≤ nt ∧ nt ≤ 8) (h : tieok nt a b) : (prF kd nt a b g).2 ≤ 6 := by
  have hb := tie_bits hn h
  unfold prF
  rw [prL_nb]
  by_cases e : a = -1
  · rw [if_pos e]
    show (0 : Int) + 1 + 1 + nbL b nt.toNat 0 ≤ 6
    omega
  · rw [if_neg e]
    show (0 : Int) + 1 + 1 + 1 + nbL b nt.toNat 0 ≤ 6
    omega
theorem cs_prints {σ τ σ' τ' s0 s : q_S} {r r' : Option q_V} {v : Int} (h : Rel σ τ) (hce : cE σ (pM (τ 1))) (hx : (¬ (0 ≤ v ∧ v < σ 1 2) ∧ r = some (.inl (-1)) ∧ σ' = ov σ s0) ∨ (0 ≤ v ∧ v < σ 1 2) ∧ r = some (.inl (prF (σ 3) (σ 1 1) (σ 6 v) (σ 7 v) (σ 94)).2) ∧ σ' = ov (prb σ (prF (σ 3) (σ 1 1) (σ 6 v) (σ 7 v) (σ 94)).1 (prF (σ 3) (σ 1 1) (σ 6 v) (σ 7 v) (σ 94)).2) s0) (hm : (¬ (0 ≤ v ∧ v < τ 1 2) ∧ r' = some (.inl (-1)) ∧ τ' = ovM τ s) ∨ (0 ≤ v ∧ v < τ 1 2) ∧ r' = some (.inl (prF (pM (τ 1) 3) (τ 1 1) (pM (τ 1) 6 v) (pM (τ 1) 7 v) (τ 17)).2) ∧ τ' = (ovM (prM τ (prF (pM (τ 1) 3) (τ 1 1) (pM (τ 1) 6 v) (pM (τ 1) 7 v) (τ 17)).1 (prF (pM (τ 1) 3) (τ 1 1) (pM (τ 1) 6 v) (pM (τ 1) 7 v) (τ 17)).2) s)) : RES r r' σ' τ' := by
  obtain ⟨_, _, _, i4, i5, i6, i7⟩ := h.1.1
  rw [cE_1 hce, cE_3 hce, cE_6 hce, cE_7 hce] at hx
  have p1 : pM (τ 1) 1 = τ 1 := rfl
  rw [p1] at hx
  rcases hx with ⟨a, b, e⟩ | ⟨a, b, e⟩
  · rcases hm with ⟨m, n, t⟩ | ⟨m, n, t⟩
    · exact ⟨by rw [b, n], σ, s0, τ, s, e, t, h⟩
    · exact absurd m a
  · rcases hm with ⟨m, n, t⟩ | ⟨m, n, t⟩
    · exact absurd a m
    · have hag := prF_ag (kd := pM (τ 1) 3) (nt := τ 1 1) (a := pM (τ 1) 6 v) (b := pM (τ 1) 7 v) (g := σ 94) (g' := τ 17)
      have h6 := prF_6 (kd := pM (τ 1) 3) (g := σ 94) h.1.2.nt (h.1.2.tie a).2.2
      revert b e n t hag h6
      generalize prF (pM (τ 1) 3) (τ 1 1) (pM (τ 1) 6 v) (pM (τ 1) 7 v) (σ 94) = A
      generalize prF (pM (τ 1) 3) (τ 1 1) (pM (τ 1) 6 v) (pM (τ 1) 7 v) (τ 17) = B
      intro b e n t hag h6
      refine ⟨by rw [b, n, hag.2.1], _, s0, _, s, e, t, ?_⟩
      have po : ∀ c : Int, c ≠ 94 → c ≠ 0 → prb σ A.1 A.2 c = σ c := fun c c0 c1 => by
        unfold prb
        rw [q_up_o c1, q_row_o c0]
      have pm : prb σ A.1 A.2 0 11 = A.2 := q_up_s
      have pn : ∀ x : Int, x ≠ 11 → prb σ A.1 A.2 0 x = σ 0 x := fun x hx => by
        unfold prb
        rw [q_up_n (fun z => hx z.2), q_row_o (by decide)]
      have mn : ∀ x : Int, x ≠ 34 → prM τ B.1 B.2 0 x = τ 0 x := fun x hx => by
        unfold prM
        rw [q_up_n (fun z => hx z.2), q_row_o (by decide)]
      have r94 : prb σ A.1 A.2 94 = A.1 := by
        unfold prb
        rw [q_up_o (by decide), q_row_s]
      have r17 : prM τ B.1 B.2 17 = B.1 := by
        unfold prM
        rw [q_up_o (by decide), q_row_s]
      refine Rel_x h (fun c c0 c1 => po c (by omega) (by omega)) (pn 3 (by decide)) (fun c c0 c1 => prM_o ⟨by omega, by omega⟩) (prM_o ⟨by decide, by decide⟩) (mn 9 (by decide)) (mn 38 (by decide)) (by rw [po 91 (by decide) (by decide)]; exact i4) (by rw [po 91 (by decide) (by decide), po 92 (by decide) (by decide)]; exact i5) (by rw [pm]; exact ⟨hag.1, h6⟩) (fun l l0 l1 => by rw [po (104 + 2 * l) (by omega) (by omega)]; exact i7 l l0 l1) ?_ ?_ ?_
      · unfold rT
        rw [po 91 (by decide) (by decide), po 92 (by decide) (by decide), mn 28 (by decide), prM_o ⟨by decide, by decide⟩]
        exact h.2.2.2.2.1
      · unfold rS
        rw [pm, prM_m, r94, r17]
        refine ⟨hag.2.1, ?_⟩
        rw [← hag.2.1]
        exact hag.2.2
      · intro l l0 l1
        rw [po (104 + 2 * l) (by omega) (by omega), po (104 + 2 * l + 1) (by omega) (by omega), prM_o ⟨by decide, by decide⟩, prM_o ⟨by decide, by decide⟩]
        exact h.2.2.2.2.2.2 l l0 l1
/-- the tape emptied -/
theorem Rel_t0 {σ τ τ' : q_S} (h : Rel σ τ) (hc : ∀ c : Int, c ≠ 0 → τ' c = τ c) (h0 : ∀ x : Int, x ≠ 28 → τ' 0 x = τ 0 x) (h28 : τ' 0 28 = 0) : Rel (q_up σ 91 1 0) τ' := by
  obtain ⟨_, _, _, i4, i5, i6, i7⟩ := h.1.1
  have o : ∀ c : Int, c ≠ 91 → q_up σ 91 1 0 c = σ c := fun c hc => q_up_o hc
  refine Rel_x h (fun c c0 c1 => o c (by omega)) (by rw [o 0 (by decide)]) (fun c c0 c1 => hc c (by omega)) (hc 21 (by decide)) (h0 9 (by decide)) (h0 38 (by decide)) (by rw [q_up_s]; decide) (fun k k0 k1 => by rw [q_up_s] at k1; omega) (by rw [o 0 (by decide)]; exact i6) (fun l l0 l1 => by rw [o (104 + 2 * l) (by omega)]; exact i7 l l0 l1) ⟨by rw [q_up_s, h28], fun k k0 k1 => by rw [h28] at k1; omega⟩ ?_ ?_
  · unfold rS
    rw [o 0 (by decide), o 94 (by decide), h0 34 (by decide), hc 17 (by decide)]
    exact h.2.2.2.2.2.1
  · intro l l0 l1
    rw [o (104 + 2 * l) (by omega), o (104 + 2 * l + 1) (by omega), hc 18 (by decide), hc 19 (by decide)]
    exact h.2.2.2.2.2.2 l l0 l1
theorem cs_reads {σ τ σ' τ' : q_S} {r r' : Option q_V} (h : Rel σ τ) (hce : cE σ (pM (τ 1))) (hT : tT σ = tT (tx τ)) (hx : (0 ≤ pA (tT σ) (σ 91 1) ∧ r = some (.inl (-1000 - pA (tT σ) (σ 91 1))) ∧ ∃ s', σ' = ov (q_up σ 91 1 0) s') ∨ (¬ 0 ≤ pA (tT σ) (σ 91 1) ∧ ∃ σ1, pcopied σ σ1 1 (10 + 7 * σ 8 1) ∧ r = some (.inl (dA (tT σ) σ1).1) ∧ (((dA (tT σ) σ1).2.1 = true ∧ ∃ s', σ' = ov (q_up (q_up (dA (tT σ) σ1).2.2 8 2 0) 91 1 0) s') ∨ ((dA (tT σ) σ1).2.1 = false ∧ ∃ τ s', pcopied (dA (tT σ) σ1).2.2 τ (10 + 7 * σ 8 1) 1 ∧ σ' = ov (q_up τ 91 1 0) s')))) (hm : ∃ z, r' = some z ∧ ((0 ≤ pA (tT (tx τ)) (τ 0 28) ∧ z = .inl (-1000 - pA (tT (tx τ)) (τ 0 28)) ∧ ∃ s', τ' = ovM (q_up τ 0 28 0) s') ∨ (¬ 0 ≤ pA (tT (tx τ)) (τ 0 28) ∧ z = .inl (dA (tT (tx τ)) (pM (τ 1))).1 ∧ (((dA (tT (tx τ)) (pM (τ 1))).2.1 = true ∧ ∃ σ1 s', τ' = ovM σ1 s' ∧ (∀ c x : Int, c ≠ 1 → ¬ (c = 0 ∧ (x = 9 ∨ x = 28)) → σ1 c x = τ c x) ∧ σ1 0 9 = 0 ∧ σ1 0 28 = 0 ∧ pE (pM (σ1 1)) (dA (tT (tx τ)) (pM (τ 1))).2.2 ∧ KR (σ1 1)) ∨ ((dA (tT (tx τ)) (pM (τ 1))).2.1 = false ∧ ∃ σ1 s', τ' = ovM σ1 s' ∧ (∀ c x : Int, c ≠ 1 → ¬ (c = 0 ∧ x = 28) → σ1 c x = τ c x) ∧ σ1 0 28 = 0 ∧ ∀ x : Int, 0 ≤ x → x < 80 → σ1 1 x = τ 1 x))))) : RES r r' σ' τ' := by
  obtain ⟨z, hr', hm⟩ := hm
  have e91 : σ 91 1 = τ 0 28 := h.2.2.2.2.1.1
  rw [hT, e91] at hx
  have h8 := h.1.1.2.1
  have hc9 := h.1.2.2.2.2.1
  rcases hx with ⟨a, b, s1, e⟩ | ⟨a, σ1, hcp, b, hx⟩
  · rcases hm with ⟨m, n, s2, t⟩ | ⟨m, n, hm⟩
    · refine ⟨by rw [b, hr', n], _, s1, _, s2, e, t, ?_⟩
      exact Rel_t0 h (fun c hc => q_up_o hc) (fun x hx => q_up_n (fun z => hx z.2)) q_up_s
    · exact absurd a m
  · rcases hm with ⟨m, n, s2, t⟩ | ⟨m, n, hm⟩
    · exact absurd m a
    · have hR1 := Rel_cp h hcp
      have hce1 : cE σ1 (pM (τ 1)) := fun c a b => (cp_o h8 hcp (by omega)).trans (hce c a b)
      have hd := doA_c (T := tT (tx τ)) 120 0 z0 0 σ1 (pM (τ 1)) hce1
      have hip := IPs_doA (T := tT (tx τ)) 120 0 z0 0 (pM (τ 1)) h.1.2.1
      have ho := doA_o (T := tT (tx τ)) 120 0 z0 0 σ1
      have e1 : r = r' := by
        rw [b, hr', n]
        exact congrArg (fun y => some (Sum.inl y)) hd.1
      have hd2 : (dA (tT (tx τ)) σ1).2.1 = (dA (tT (tx τ)) (pM (τ 1))).2.1 := hd.2.1
      have hd3 : cE (dA (tT (tx τ)) σ1).2.2 (dA (tT (tx τ)) (pM (τ 1))).2.2 := hd.2.2
      have ho : ∀ c : Int, ¬ (1 ≤ c ∧ c ≤ 7) → (dA (tT (tx τ)) σ1).2.2 c = σ1 c := ho
      have hip : IPs (dA (tT (tx τ)) (pM (τ 1))).2.2 := hip
      revert hx hm hd2 hd3 ho hip
      generalize dA (tT (tx τ)) σ1 = A
      generalize dA (tT (tx τ)) (pM (τ 1)) = B
      intro hx hm hd2 hd3 ho hip
      rcases hx with ⟨g, s1, e⟩ | ⟨g, ρ, s1, hcp2, e⟩
      · rcases hm with ⟨_, τ1, s2, t, f1, f9, f28, fp, fk⟩ | ⟨g2, _⟩
        · refine ⟨e1, _, s1, _, s2, e, t, ?_⟩
          have hR2 : Rel (q_up A.2.2 8 2 0) (q_up τ1 0 28 (τ 0 28)) := by
            have hpp : pE (q_up A.2.2 8 2 0) A.2.2 := ⟨fun j _ _ => q_up_n (by omega), fun j _ _ => q_up_n (by omega), fun j _ _ => q_up_n (by omega), fun k j a b _ _ => q_up_n (by omega)⟩
            have hpm : pE (q_up A.2.2 8 2 0) (pM (τ1 1)) := pE_t hpp (pE_t (cE_pE hd3) (pE_s fp))
            have y9 : q_up τ1 0 28 (τ 0 28) 0 9 = 0 := by rw [q_up_n (by decide), f9]
            refine Rel_take hR1 (by rw [q_up_o (by decide)]; exact hpm) (by rw [q_up_o (by decide)]; exact IPs_pE hip fp) (by rw [q_up_o (by decide)]; exact fk) (fun c hc => by rw [q_up_o (by omega), ho c (by omega)]) (by rw [q_up_o (by decide), ho 0 (by decide)]) (by rw [q_up_n (by decide), ho 91 (by decide)]) (by rw [q_up_n (by decide), ho 8 (by decide)]; exact hR1.1.1.2.1) (by rw [q_up_s, y9]) (by rw [y9]; decide) (fun c c0 c1 => by rw [q_up_o c0]; exact funext fun x => f1 c x c1 (fun z => c0 z.1)) (fun x hx => ?_) (fun k k0 k1 => ?_)
            · by_cases ex : x = 28
              · rw [ex, q_up_s]
              · rw [q_up_n (fun z => ex z.2)]
                exact f1 0 x (by decide) (by omega)
            · rw [y9] at k1
              omega
          exact Rel_t0 hR2 (fun c hc => (q_up_o hc).symm) (fun x hx => (q_up_n (fun z => hx z.2)).symm) f28
        · rw [← hd2, g] at g2
          cases g2
      · rcases hm with ⟨g2, _⟩ | ⟨_, τ1, s2, t, f1, f28, fp⟩
        · rw [← hd2, g] at g2
          cases g2
        · refine ⟨e1, _, s1, _, s2, e, t, ?_⟩
          have hf := hcp2.2.2.2.2
          have hco : ∀ c : Int, ¬ (1 ≤ c ∧ c ≤ 7) → ρ c = σ1 c := fun c hc => (funext fun x => hf c x (by omega)).trans (ho c hc)
          have e8 : σ1 8 = σ 8 := cp_o h8 hcp (by decide)
          have hR2 : Rel ρ (q_up τ1 0 28 (τ 0 28)) := by
            have p1 := pE_cp hcp2
            rw [pcX_1] at p1
            have p2 : pE (pcX A.2.2 (10 + 7 * σ 8 1)) (pcX σ1 (10 + 7 * σ 8 1)) := pcX_o (fun c x a b => by rw [ho c (by omega)])
            have p3 := pE_cp hcp
            rw [pcX_1] at p3
            have hag := pM_ag fp
            have y9 : q_up τ1 0 28 (τ 0 28) 0 9 = τ 0 9 := by rw [q_up_n (by decide), f1 0 9 (by decide) (by decide)]
            have hb : ∀ j, blk (q_up τ1 0 28 (τ 0 28)) j = blk τ j := fun j => by
              unfold blk
              rw [q_up_o (by decide)]
              exact funext fun x => f1 8 _ (by decide) (by omega)
            refine Rel_take hR1 (by rw [q_up_o (by decide)]; exact pE_t p1 (pE_t p2 (pE_t p3 (pE_t h.2.1 (pE_s hag))))) (by rw [q_up_o (by decide)]; exact IPs_pE h.1.2.1 hag) (by rw [q_up_o (by decide)]; exact KR_ag h.1.2.nt.2 fp h.1.2.2.1) (fun c hc => hco c (by omega)) (hco 0 (by decide)) (by rw [hco 91 (by decide)]) (by rw [hco 8 (by decide)]; exact hR1.1.1.2.1) (by rw [hco 8 (by decide), y9]; exact hR1.2.2.1.1) (by rw [y9]; exact hc9) (fun c c0 c1 => by rw [q_up_o c0]; exact funext fun x => f1 c x c1 (fun z => c0 z.1)) (fun x hx => ?_) (fun k k0 k1 => ?_)
            · by_cases ex : x = 28
              · rw [ex, q_up_s]
              · rw [q_up_n (fun z => ex z.2)]
                exact f1 0 x (by decide) (by omega)
            · rw [y9] at k1
              have hz := hR1.2.2.1.2 k k0 k1
              have es : slX ρ k = slX σ1 k := by
                unfold slX
                rw [hco 8 (by decide)]
              have hr := @slX_rng σ1 k
              rw [y9, es, hb]
              exact ⟨pE_t (pcX_o (fun c x a b => by rw [hco c (by omega)])) hz.1, hz.2⟩
          exact Rel_t0 hR2 (fun c hc => (q_up_o hc).symm) (fun x hx => (q_up_n (fun z => hx z.2)).symm) f28
