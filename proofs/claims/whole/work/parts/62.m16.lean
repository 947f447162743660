theorem oV_c {x y a b : Int} {τ : q_S} : (¬ (((-20 ≤ x ∧ x ≤ 20) ∧ -20 ≤ y ∧ y ≤ 20) ∧ tieok (τ 1 1) a b) ∧ oV x y a b τ = (-1, τ)) ∨ ((((-20 ≤ x ∧ x ≤ 20) ∧ -20 ≤ y ∧ y ≤ 20) ∧ tieok (τ 1 1) a b) ∧ ¬ onAL (τ 2) a b x y (τ 1 1).toNat 0 = true ∧ oV x y a b τ = (-5, τ)) ∨ ((((-20 ≤ x ∧ x ≤ 20) ∧ -20 ≤ y ∧ y ≤ 20) ∧ tieok (τ 1 1) a b) ∧ onAL (τ 2) a b x y (τ 1 1).toNat 0 = true ∧ τ 1 2 = 4 ∧ oV x y a b τ = (-3, τ)) ∨ ((((-20 ≤ x ∧ x ≤ 20) ∧ -20 ≤ y ∧ y ≤ 20) ∧ tieok (τ 1 1) a b) ∧ onAL (τ 2) a b x y (τ 1 1).toNat 0 = true ∧ τ 1 2 ≠ 4 ∧ oV x y a b τ = (τ 1 2, newV x y a b τ)) := by
  unfold oV
  by_cases h1 : ((-20 ≤ x ∧ x ≤ 20) ∧ -20 ≤ y ∧ y ≤ 20) ∧ tieok (τ 1 1) a b
  · rw [if_neg (fun z => z.elim (fun z => z h1.1) (fun z => z (tieB_t.mpr h1.2)))]
    by_cases h2 : onAL (τ 2) a b x y (τ 1 1).toNat 0 = true
    · rw [if_neg (fun z => z h2)]
      by_cases h3 : τ 1 2 = 4
      · exact Or.inr (Or.inr (Or.inl ⟨h1, h2, h3, if_pos h3⟩))
      · exact Or.inr (Or.inr (Or.inr ⟨h1, h2, h3, if_neg h3⟩))
    · exact Or.inr (Or.inl ⟨h1, h2, if_pos h2⟩)
  · refine Or.inl ⟨h1, ?_⟩
    have hb : ¬ ((-20 ≤ x ∧ x ≤ 20) ∧ -20 ≤ y ∧ y ≤ 20) ∨ ¬ tieB (τ 1 1) a b = true := by
      by_cases g : ((-20 ≤ x ∧ x ≤ 20) ∧ -20 ≤ y ∧ y ≤ 20)
      · exact Or.inr (fun z => h1 ⟨g, tieB_t.mp z⟩)
      · exact Or.inl g
    exact if_pos hb
set_option maxRecDepth 100000 in
theorem lpX8_vr (σ : q_S) (x y a b : Int) (hI : IM σ) (hx : q_bd x 20) (hy : q_bd y 20) : ∀ (n : Nat) (i : Int) (s : q_S), (n : Int) + i = σ 1 1 → 0 ≤ i → q_WP mX8_vertexRefusal shM 65 [some (.inr (.inr 0)), some (.inl x), some (.inl y), some (.inl a), some (.inl b), some (.inl i)] [] (ovM σ s) (fun r σ' => r = some (.inl (if ¬ onAL (pM (σ 1) 2) a b x y n i = true then -5 else if σ 1 2 = 4 then -3 else 0)) ∧ ∃ s', σ' = ovM σ s' ∧ ∀ c x : Int, ¬ (c = 0 ∧ 10 ≤ x ∧ x ≤ 14) → s' c x = s c x) := by
  intro n
  induction n with
  | zero =>
    intro i s hi h0
    refine q_iload (n := 67) dX8_vertexRefusal_65 rfl rfl ?_
    refine q_aload_n (n := 68) dX8_vertexRefusal_67 rfl rfl ?_
    refine q_getR (n := 71) dX8_vertexRefusal_68 rfl fX8_23 mi0 rfl ?_
    refine q_iconst (n := 72) dX8_vertexRefusal_71 rfl (k := ?_)
    refine q_ialoadF (σ 1) (n := 73) dX8_vertexRefusal_72 rfl mi1 ⟨by omega, by omega⟩ rfl ?_
    refine q_icmp_ge (n := 76) (t := 112) dX8_vertexRefusal_73 rfl (by decide) (fun h73 => ?_) (fun h73 => ?_)
    · skip
      refine q_aload_n (n := 113) dX8_vertexRefusal_112 rfl rfl ?_
      refine q_getR (n := 116) dX8_vertexRefusal_113 rfl fX8_23 mi0 rfl ?_
      refine q_iconst (n := 117) dX8_vertexRefusal_116 rfl (k := ?_)
      refine q_ialoadF (σ 1) (n := 118) dX8_vertexRefusal_117 rfl mi1 ⟨by omega, by omega⟩ rfl ?_
      refine q_iconst (n := 119) dX8_vertexRefusal_118 rfl (k := ?_)
      refine q_icmp_ne (n := 122) (t := 127) dX8_vertexRefusal_119 rfl (by decide) (fun h119 => ?_) (fun h119 => ?_)
      · skip
        refine q_iconst (n := 128) dX8_vertexRefusal_127 rfl (k := ?_)
        refine q_iret dX8_vertexRefusal_128 rfl (fun _ => rfl) ?_
        refine ⟨congrArg some (congrArg Sum.inl (Eq.symm ?_)), s, rfl, fun _ _ _ => rfl⟩
        rw [if_neg (fun z => z rfl)]
        first
          | exact if_pos h119
          | exact if_neg h119
      · skip
        refine q_bipush (n := 124) dX8_vertexRefusal_122 rfl (k := ?_)
        refine q_go (t := 128) dX8_vertexRefusal_124 (by decide) ?_
        refine q_iret dX8_vertexRefusal_128 rfl (fun _ => rfl) ?_
        refine ⟨congrArg some (congrArg Sum.inl (Eq.symm ?_)), s, rfl, fun _ _ _ => rfl⟩
        rw [if_neg (fun z => z rfl)]
        first
          | exact if_pos h119
          | exact if_neg h119
    · exact absurd h73 (by omega)
  | succ n ih =>
    intro i s hi h0
    have hn := hI.nt
    refine q_iload (n := 67) dX8_vertexRefusal_65 rfl rfl ?_
    refine q_aload_n (n := 68) dX8_vertexRefusal_67 rfl rfl ?_
    refine q_getR (n := 71) dX8_vertexRefusal_68 rfl fX8_23 mi0 rfl ?_
    refine q_iconst (n := 72) dX8_vertexRefusal_71 rfl (k := ?_)
    refine q_ialoadF (σ 1) (n := 73) dX8_vertexRefusal_72 rfl mi1 ⟨by omega, by omega⟩ rfl ?_
    refine q_icmp_ge (n := 76) (t := 112) dX8_vertexRefusal_73 rfl (by decide) (fun h73 => ?_) (fun h73 => ?_)
    · exact absurd h73 (by omega)
    · skip
      refine q_iload (n := 78) dX8_vertexRefusal_76 rfl rfl ?_
      refine q_iload_n (n := 79) dX8_vertexRefusal_78 rfl rfl ?_
      refine q_icmp_eq (n := 82) (t := 92) dX8_vertexRefusal_79 rfl (by decide) (fun h79 => ?_) (fun h79 => ?_)
      · skip
        refine q_aload_n (n := 93) dX8_vertexRefusal_92 rfl rfl ?_
        refine q_iload (n := 95) dX8_vertexRefusal_93 rfl rfl ?_
        refine q_iload_n (n := 96) dX8_vertexRefusal_95 rfl rfl ?_
        refine q_iload_n (n := 97) dX8_vertexRefusal_96 rfl rfl ?_
        refine q_v3 (n := 100) dX8_vertexRefusal_97 rfl (zX8_isOn i x y σ _ hI ⟨h0, by omega⟩ hx hy) vX8_isOn lX8_173 rfl rfl mi0 rfl (fun v97 σ97 h97 => ?_)
        obtain ⟨rfl, s97, rfl, hfr⟩ := h97
        · skip
          refine q_if_ne (n := 103) (t := 106) dX8_vertexRefusal_100 rfl (by decide) (fun h100 => ?_) (fun h100 => ?_)
          · have h100 := q_b1.mp h100
            refine q_iinc (n := 109) dX8_vertexRefusal_106 rfl (Nat.le_of_ble_eq_true rfl) rfl (q_nwid ⟨by omega, by omega⟩) (q_s1_s (q_s1_s (q_s1_s (q_s1_s (q_s1_1 rfl))))) ?_
            refine q_go (t := 65) dX8_vertexRefusal_109 (by decide) ?_
            have e : onAL (pM (σ 1) 2) a b x y (n + 1) i = onAL (pM (σ 1) 2) a b x y n (i + 1) := by
              have hb : ¬ ((i = a ∨ q_and (q_shr b i) 1 = 1) ∧ ¬ onb (pM (σ 1) 2) i x y = true) := by
                first
                  | (intro z; exact z.2 h100)
                  | (intro z; exact z.1.elim h79 h89)
              rw [onAL, if_neg hb]
            rw [e]
            first
              | exact (ih (i + 1) s97 (by omega) (by omega)).imp (fun r σ2 h => ⟨h.1, h.2.elim fun s2 h2 => ⟨s2, h2.1, fun c x hc => (h2.2 c x hc).trans (hfr c x hc)⟩⟩)
              | exact ih (i + 1) s (by omega) (by omega)
          · have h100 := q_b0.mp h100
            refine q_bipush (n := 105) dX8_vertexRefusal_103 rfl (k := ?_)
            refine q_iret dX8_vertexRefusal_105 rfl (fun _ => rfl) ?_
            refine ⟨congrArg some (congrArg Sum.inl (Eq.symm ?_)), _, rfl, hfr⟩
            have hb : (i = a ∨ q_and (q_shr b i) 1 = 1) ∧ ¬ onb (pM (σ 1) 2) i x y = true := ⟨by first | exact Or.inl h79 | exact Or.inr h89, h100⟩
            rw [onAL, if_pos hb]
            exact if_pos (by decide)
      · skip
        refine q_iload (n := 84) dX8_vertexRefusal_82 rfl rfl ?_
        refine q_iload (n := 86) dX8_vertexRefusal_84 rfl rfl ?_
        refine q_c2D (n := 89) dX8_vertexRefusal_86 rfl (zX8_has _ _ _ _) vX8_has lX8_170 rfl rfl ?_
        refine q_if_eq (n := 92) (t := 106) dX8_vertexRefusal_89 rfl (by decide) (fun h89 => ?_) (fun h89 => ?_)
        · have h89 := q_b0.mp h89
          refine q_iinc (n := 109) dX8_vertexRefusal_106 rfl (Nat.le_of_ble_eq_true rfl) rfl (q_nwid ⟨by omega, by omega⟩) (q_s1_s (q_s1_s (q_s1_s (q_s1_s (q_s1_1 rfl))))) ?_
          refine q_go (t := 65) dX8_vertexRefusal_109 (by decide) ?_
          have e : onAL (pM (σ 1) 2) a b x y (n + 1) i = onAL (pM (σ 1) 2) a b x y n (i + 1) := by
            have hb : ¬ ((i = a ∨ q_and (q_shr b i) 1 = 1) ∧ ¬ onb (pM (σ 1) 2) i x y = true) := by
              first
                | (intro z; exact z.2 h100)
                | (intro z; exact z.1.elim h79 h89)
            rw [onAL, if_neg hb]
          rw [e]
          first
            | exact (ih (i + 1) s97 (by omega) (by omega)).imp (fun r σ2 h => ⟨h.1, h.2.elim fun s2 h2 => ⟨s2, h2.1, fun c x hc => (h2.2 c x hc).trans (hfr c x hc)⟩⟩)
            | exact ih (i + 1) s (by omega) (by omega)
        · have h89 := q_b1.mp h89
          refine q_aload_n (n := 93) dX8_vertexRefusal_92 rfl rfl ?_
          refine q_iload (n := 95) dX8_vertexRefusal_93 rfl rfl ?_
          refine q_iload_n (n := 96) dX8_vertexRefusal_95 rfl rfl ?_
          refine q_iload_n (n := 97) dX8_vertexRefusal_96 rfl rfl ?_
          refine q_v3 (n := 100) dX8_vertexRefusal_97 rfl (zX8_isOn i x y σ _ hI ⟨h0, by omega⟩ hx hy) vX8_isOn lX8_173 rfl rfl mi0 rfl (fun v97 σ97 h97 => ?_)
          obtain ⟨rfl, s97, rfl, hfr⟩ := h97
          · skip
            refine q_if_ne (n := 103) (t := 106) dX8_vertexRefusal_100 rfl (by decide) (fun h100 => ?_) (fun h100 => ?_)
            · have h100 := q_b1.mp h100
              refine q_iinc (n := 109) dX8_vertexRefusal_106 rfl (Nat.le_of_ble_eq_true rfl) rfl (q_nwid ⟨by omega, by omega⟩) (q_s1_s (q_s1_s (q_s1_s (q_s1_s (q_s1_1 rfl))))) ?_
              refine q_go (t := 65) dX8_vertexRefusal_109 (by decide) ?_
              have e : onAL (pM (σ 1) 2) a b x y (n + 1) i = onAL (pM (σ 1) 2) a b x y n (i + 1) := by
                have hb : ¬ ((i = a ∨ q_and (q_shr b i) 1 = 1) ∧ ¬ onb (pM (σ 1) 2) i x y = true) := by
                  first
                    | (intro z; exact z.2 h100)
                    | (intro z; exact z.1.elim h79 h89)
                rw [onAL, if_neg hb]
              rw [e]
              first
                | exact (ih (i + 1) s97 (by omega) (by omega)).imp (fun r σ2 h => ⟨h.1, h.2.elim fun s2 h2 => ⟨s2, h2.1, fun c x hc => (h2.2 c x hc).trans (hfr c x hc)⟩⟩)
                | exact ih (i + 1) s (by omega) (by omega)
            · have h100 := q_b0.mp h100
              refine q_bipush (n := 105) dX8_vertexRefusal_103 rfl (k := ?_)
              refine q_iret dX8_vertexRefusal_105 rfl (fun _ => rfl) ?_
              refine ⟨congrArg some (congrArg Sum.inl (Eq.symm ?_)), _, rfl, hfr⟩
              have hb : (i = a ∨ q_and (q_shr b i) 1 = 1) ∧ ¬ onb (pM (σ 1) 2) i x y = true := ⟨by first | exact Or.inl h79 | exact Or.inr h89, h100⟩
              rw [onAL, if_pos hb]
              exact if_pos (by decide)
set_option maxRecDepth 100000 in
theorem zX8_vertexRefusal (x y a b : Int) (σ s : q_S) (hI : IM σ) : q_Ct mX8_vertexRefusal shM [.inr (.inr 0), .inl x, .inl y, .inl a, .inl b] (ovM σ s) (fun r σ' => ∃ z, r = some z ∧ (z = .inl (if 0 ≤ (oV x y a b (pM (σ 1))).1 then 0 else (oV x y a b (pM (σ 1))).1) ∧ ∃ s', σ' = ovM σ s' ∧ ∀ c x : Int, ¬ (c = 0 ∧ 10 ≤ x ∧ x ≤ 14) → s' c x = s c x)) := by
  refine q_ct 1 (by decide) rfl rfl ?_
  show q_WP mX8_vertexRefusal shM 0 [some (.inr (.inr 0)), some (.inl x), some (.inl y), some (.inl a), some (.inl b), none] [] (ovM σ s) _
  refine q_know (fun _ _ hl => ?_)
  have hb32 : q_i32 b := hl 4 (.inl b) rfl
  have hn := hI.nt
  have hvv := hI.nv
  have h11 : pM (σ 1) 1 1 = σ 1 1 := rfl
  have h12 : pM (σ 1) 1 2 = σ 1 2 := rfl
  have hc := @oV_c x y a b (pM (σ 1))
  have hsl := shl_1 hn
  refine q_iload_n (n := 1) dX8_vertexRefusal_0 rfl rfl ?_
  refine q_iload_n (n := 2) dX8_vertexRefusal_1 rfl rfl ?_
  refine q_c2D (n := 5) dX8_vertexRefusal_2 rfl (zX8_isGrid _ _ _ _) vX8_isGrid lX8_144 rfl rfl ?_
  refine q_if_eq (n := 8) (t := 60) dX8_vertexRefusal_5 rfl (by decide) (fun h5 => ?_) (fun h5 => ?_)
  · have h5 := q_b0.mp h5
    refine q_iconst (n := 61) dX8_vertexRefusal_60 rfl (k := ?_)
    refine q_iret dX8_vertexRefusal_61 rfl (fun _ => rfl) ?_
    refine ⟨_, rfl, congrArg Sum.inl (Eq.symm ?_), s, rfl, fun _ _ _ => rfl⟩
    have hno : ¬ ((((-20 ≤ x ∧ x ≤ 20) ∧ -20 ≤ y ∧ y ≤ 20)) ∧ tieok (pM (σ 1) 1 1) a b) := by
      rintro ⟨g, t1, t2, t3, t4, t5⟩
      have t3 : b < q_shl 1 (σ 1 1) := t3
      have hbz := (shr_z hb32 (by omega) hn).mpr t3
      have hpo := onS_popc (x := b) ⟨by omega, by omega⟩
      first
        | exact h5 g
        | omega
    rcases hc with ⟨c1, c2⟩ | ⟨c1, c2, c3⟩ | ⟨c1, c2, c3, c4⟩ | ⟨c1, c2, c3, c4⟩
    · rw [c2]
      exact if_neg (by show ¬ (0 : Int) ≤ -1; decide)
    · exact absurd c1 hno
    · exact absurd c1 hno
    · exact absurd c1 hno
  · have h5 := q_b1.mp h5
    refine q_iload_n (n := 9) dX8_vertexRefusal_8 rfl rfl ?_
    refine q_iconst (n := 10) dX8_vertexRefusal_9 rfl (k := ?_)
    refine q_icmp_eq (n := 13) (t := 21) dX8_vertexRefusal_10 rfl (by decide) (fun h10 => ?_) (fun h10 => ?_)
    · skip
      refine q_iload (n := 23) dX8_vertexRefusal_21 rfl rfl ?_
      refine q_if_le (n := 26) (t := 60) dX8_vertexRefusal_23 rfl (by decide) (fun h23 => ?_) (fun h23 => ?_)
      · skip
        refine q_iconst (n := 61) dX8_vertexRefusal_60 rfl (k := ?_)
        refine q_iret dX8_vertexRefusal_61 rfl (fun _ => rfl) ?_
        refine ⟨_, rfl, congrArg Sum.inl (Eq.symm ?_), s, rfl, fun _ _ _ => rfl⟩
        have hno : ¬ ((((-20 ≤ x ∧ x ≤ 20) ∧ -20 ≤ y ∧ y ≤ 20)) ∧ tieok (pM (σ 1) 1 1) a b) := by
          rintro ⟨g, t1, t2, t3, t4, t5⟩
          have t3 : b < q_shl 1 (σ 1 1) := t3
          have hbz := (shr_z hb32 (by omega) hn).mpr t3
          have hpo := onS_popc (x := b) ⟨by omega, by omega⟩
          first
            | exact h5 g
            | omega
        rcases hc with ⟨c1, c2⟩ | ⟨c1, c2, c3⟩ | ⟨c1, c2, c3, c4⟩ | ⟨c1, c2, c3, c4⟩
        · rw [c2]
          exact if_neg (by show ¬ (0 : Int) ≤ -1; decide)
        · exact absurd c1 hno
        · exact absurd c1 hno
        · exact absurd c1 hno
      · skip
        refine q_iload (n := 28) dX8_vertexRefusal_26 rfl rfl ?_
        refine q_aload_n (n := 29) dX8_vertexRefusal_28 rfl rfl ?_
        refine q_getR (n := 32) dX8_vertexRefusal_29 rfl fX8_23 mi0 rfl ?_
        refine q_iconst (n := 33) dX8_vertexRefusal_32 rfl (k := ?_)
        refine q_ialoadF (σ 1) (n := 34) dX8_vertexRefusal_33 rfl mi1 ⟨by omega, by omega⟩ rfl ?_
        refine q_ishr (n := 35) dX8_vertexRefusal_34 rfl ?_
        refine q_if_ne (n := 38) (t := 60) dX8_vertexRefusal_35 rfl (by decide) (fun h35 => ?_) (fun h35 => ?_)
        · skip
          refine q_iconst (n := 61) dX8_vertexRefusal_60 rfl (k := ?_)
          refine q_iret dX8_vertexRefusal_61 rfl (fun _ => rfl) ?_
          refine ⟨_, rfl, congrArg Sum.inl (Eq.symm ?_), s, rfl, fun _ _ _ => rfl⟩
          have hno : ¬ ((((-20 ≤ x ∧ x ≤ 20) ∧ -20 ≤ y ∧ y ≤ 20)) ∧ tieok (pM (σ 1) 1 1) a b) := by
            rintro ⟨g, t1, t2, t3, t4, t5⟩
            have t3 : b < q_shl 1 (σ 1 1) := t3
            have hbz := (shr_z hb32 (by omega) hn).mpr t3
            have hpo := onS_popc (x := b) ⟨by omega, by omega⟩
            first
              | exact h5 g
              | omega
          rcases hc with ⟨c1, c2⟩ | ⟨c1, c2, c3⟩ | ⟨c1, c2, c3, c4⟩ | ⟨c1, c2, c3, c4⟩
          · rw [c2]
            exact if_neg (by show ¬ (0 : Int) ≤ -1; decide)
          · exact absurd c1 hno
          · exact absurd c1 hno
          · exact absurd c1 hno
        · skip
          refine q_iload (n := 40) dX8_vertexRefusal_38 rfl rfl ?_
          refine q_c1D (n := 43) dX8_vertexRefusal_40 rfl (zX8_ones _ _ _) vX8_ones lX8_167 rfl rfl ?_
          refine q_iconst (n := 44) dX8_vertexRefusal_43 rfl (k := ?_)
          refine q_icmp_gt (n := 47) (t := 60) dX8_vertexRefusal_44 rfl (by decide) (fun h44 => ?_) (fun h44 => ?_)
          · skip
            refine q_iconst (n := 61) dX8_vertexRefusal_60 rfl (k := ?_)
            refine q_iret dX8_vertexRefusal_61 rfl (fun _ => rfl) ?_
            refine ⟨_, rfl, congrArg Sum.inl (Eq.symm ?_), s, rfl, fun _ _ _ => rfl⟩
            have hno : ¬ ((((-20 ≤ x ∧ x ≤ 20) ∧ -20 ≤ y ∧ y ≤ 20)) ∧ tieok (pM (σ 1) 1 1) a b) := by
              rintro ⟨g, t1, t2, t3, t4, t5⟩
              have t3 : b < q_shl 1 (σ 1 1) := t3
              have hbz := (shr_z hb32 (by omega) hn).mpr t3
              have hpo := onS_popc (x := b) ⟨by omega, by omega⟩
              first
                | exact h5 g
                | omega
            rcases hc with ⟨c1, c2⟩ | ⟨c1, c2, c3⟩ | ⟨c1, c2, c3, c4⟩ | ⟨c1, c2, c3, c4⟩
            · rw [c2]
              exact if_neg (by show ¬ (0 : Int) ≤ -1; decide)
            · exact absurd c1 hno
            · exact absurd c1 hno
            · exact absurd c1 hno
          · skip
            refine q_iload_n (n := 48) dX8_vertexRefusal_47 rfl rfl ?_
            refine q_if_lt (n := 51) (t := 62) dX8_vertexRefusal_48 rfl (by decide) (fun h48 => ?_) (fun h48 => ?_)
            · skip
              refine q_iconst (n := 63) dX8_vertexRefusal_62 rfl (k := ?_)
              refine q_istore (n := 65) dX8_vertexRefusal_63 rfl (Nat.le_of_ble_eq_true rfl) (q_s1_s (q_s1_s (q_s1_s (q_s1_s (q_s1_1 rfl))))) ?_
              have hbz := (shr_z hb32 (by omega) hn).mp h35
              have hpo := onS_popc (x := b) ⟨by omega, by omega⟩
              have hti : tieok (pM (σ 1) 1 1) a b := ⟨by omega, by omega, hbz, by omega, by first | omega | (right; have := and1_01 (q_shr b a); omega)⟩
              refine (lpX8_vr σ x y a b hI ⟨by omega, by omega⟩ ⟨by omega, by omega⟩ (σ 1 1).toNat 0 s (by omega) (by decide)).imp ?_
              rintro r σ2 ⟨hr, hs⟩
              refine ⟨_, hr, congrArg Sum.inl (Eq.symm ?_), hs⟩
              rcases hc with ⟨c1, c2⟩ | ⟨c1, c2, c3⟩ | ⟨c1, c2, c3, c4⟩ | ⟨c1, c2, c3, c4⟩
              · exact absurd ⟨h5, hti⟩ c1
              · have e1 : (if 0 ≤ (oV x y a b (pM (σ 1))).1 then 0 else (oV x y a b (pM (σ 1))).1) = -5 := by
                  rw [c3]
                  exact if_neg (by show ¬ (0 : Int) ≤ -5; decide)
                have c2 : ¬ onAL (pM (σ 1) 2) a b x y (σ 1 1).toNat 0 = true := c2
                rw [e1, if_pos c2]
              · have e1 : (if 0 ≤ (oV x y a b (pM (σ 1))).1 then 0 else (oV x y a b (pM (σ 1))).1) = -3 := by
                  rw [c4]
                  exact if_neg (by show ¬ (0 : Int) ≤ -3; decide)
                have c2 : onAL (pM (σ 1) 2) a b x y (σ 1 1).toNat 0 = true := c2
                have c3 : σ 1 2 = 4 := c3
                rw [e1, if_neg (fun z => z c2), if_pos c3]
              · have e1 : (if 0 ≤ (oV x y a b (pM (σ 1))).1 then 0 else (oV x y a b (pM (σ 1))).1) = 0 := by
                  rw [c4]
                  exact if_pos (by show 0 ≤ σ 1 2; omega)
                have c2 : onAL (pM (σ 1) 2) a b x y (σ 1 1).toNat 0 = true := c2
                have c3 : σ 1 2 ≠ 4 := c3
                rw [e1, if_neg (fun z => z c2), if_neg c3]
            · skip
              refine q_iload (n := 53) dX8_vertexRefusal_51 rfl rfl ?_
              refine q_iload_n (n := 54) dX8_vertexRefusal_53 rfl rfl ?_
              refine q_c2D (n := 57) dX8_vertexRefusal_54 rfl (zX8_has _ _ _ _) vX8_has lX8_170 rfl rfl ?_
              refine q_if_eq (n := 60) (t := 62) dX8_vertexRefusal_57 rfl (by decide) (fun h57 => ?_) (fun h57 => ?_)
              · have h57 := q_b0.mp h57
                refine q_iconst (n := 63) dX8_vertexRefusal_62 rfl (k := ?_)
                refine q_istore (n := 65) dX8_vertexRefusal_63 rfl (Nat.le_of_ble_eq_true rfl) (q_s1_s (q_s1_s (q_s1_s (q_s1_s (q_s1_1 rfl))))) ?_
                have hbz := (shr_z hb32 (by omega) hn).mp h35
                have hpo := onS_popc (x := b) ⟨by omega, by omega⟩
                have hti : tieok (pM (σ 1) 1 1) a b := ⟨by omega, by omega, hbz, by omega, by first | omega | (right; have := and1_01 (q_shr b a); omega)⟩
                refine (lpX8_vr σ x y a b hI ⟨by omega, by omega⟩ ⟨by omega, by omega⟩ (σ 1 1).toNat 0 s (by omega) (by decide)).imp ?_
                rintro r σ2 ⟨hr, hs⟩
                refine ⟨_, hr, congrArg Sum.inl (Eq.symm ?_), hs⟩
                rcases hc with ⟨c1, c2⟩ | ⟨c1, c2, c3⟩ | ⟨c1, c2, c3, c4⟩ | ⟨c1, c2, c3, c4⟩
                · exact absurd ⟨h5, hti⟩ c1
                · have e1 : (if 0 ≤ (oV x y a b (pM (σ 1))).1 then 0 else (oV x y a b (pM (σ 1))).1) = -5 := by
                    rw [c3]
                    exact if_neg (by show ¬ (0 : Int) ≤ -5; decide)
                  have c2 : ¬ onAL (pM (σ 1) 2) a b x y (σ 1 1).toNat 0 = true := c2
                  rw [e1, if_pos c2]
                · have e1 : (if 0 ≤ (oV x y a b (pM (σ 1))).1 then 0 else (oV x y a b (pM (σ 1))).1) = -3 := by
                    rw [c4]
                    exact if_neg (by show ¬ (0 : Int) ≤ -3; decide)
                  have c2 : onAL (pM (σ 1) 2) a b x y (σ 1 1).toNat 0 = true := c2
                  have c3 : σ 1 2 = 4 := c3
                  rw [e1, if_neg (fun z => z c2), if_pos c3]
                · have e1 : (if 0 ≤ (oV x y a b (pM (σ 1))).1 then 0 else (oV x y a b (pM (σ 1))).1) = 0 := by
                    rw [c4]
                    exact if_pos (by show 0 ≤ σ 1 2; omega)
                  have c2 : onAL (pM (σ 1) 2) a b x y (σ 1 1).toNat 0 = true := c2
                  have c3 : σ 1 2 ≠ 4 := c3
                  rw [e1, if_neg (fun z => z c2), if_neg c3]
              · have h57 := q_b1.mp h57
                refine q_iconst (n := 61) dX8_vertexRefusal_60 rfl (k := ?_)
                refine q_iret dX8_vertexRefusal_61 rfl (fun _ => rfl) ?_
                refine ⟨_, rfl, congrArg Sum.inl (Eq.symm ?_), s, rfl, fun _ _ _ => rfl⟩
                have hno : ¬ ((((-20 ≤ x ∧ x ≤ 20) ∧ -20 ≤ y ∧ y ≤ 20)) ∧ tieok (pM (σ 1) 1 1) a b) := by
                  rintro ⟨g, t1, t2, t3, t4, t5⟩
                  have t3 : b < q_shl 1 (σ 1 1) := t3
                  have hbz := (shr_z hb32 (by omega) hn).mpr t3
                  have hpo := onS_popc (x := b) ⟨by omega, by omega⟩
                  first
                    | exact h5 g
                    | omega
                rcases hc with ⟨c1, c2⟩ | ⟨c1, c2, c3⟩ | ⟨c1, c2, c3, c4⟩ | ⟨c1, c2, c3, c4⟩
                · rw [c2]
                  exact if_neg (by show ¬ (0 : Int) ≤ -1; decide)
                · exact absurd c1 hno
                · exact absurd c1 hno
                · exact absurd c1 hno
    · skip
      refine q_aload_n (n := 14) dX8_vertexRefusal_13 rfl rfl ?_
      refine q_iload_n (n := 15) dX8_vertexRefusal_14 rfl rfl ?_
      refine q_v1D (n := 18) dX8_vertexRefusal_15 rfl (zX8_isTrack _ σ _ hn) vX8_isTrack lX8_156 rfl rfl mi0 rfl ?_
      refine q_if_eq (n := 21) (t := 60) dX8_vertexRefusal_18 rfl (by decide) (fun h18 => ?_) (fun h18 => ?_)
      · have h18 := q_b0.mp h18
        refine q_iconst (n := 61) dX8_vertexRefusal_60 rfl (k := ?_)
        refine q_iret dX8_vertexRefusal_61 rfl (fun _ => rfl) ?_
        refine ⟨_, rfl, congrArg Sum.inl (Eq.symm ?_), s, rfl, fun _ _ _ => rfl⟩
        have hno : ¬ ((((-20 ≤ x ∧ x ≤ 20) ∧ -20 ≤ y ∧ y ≤ 20)) ∧ tieok (pM (σ 1) 1 1) a b) := by
          rintro ⟨g, t1, t2, t3, t4, t5⟩
          have t3 : b < q_shl 1 (σ 1 1) := t3
          have hbz := (shr_z hb32 (by omega) hn).mpr t3
          have hpo := onS_popc (x := b) ⟨by omega, by omega⟩
          first
            | exact h5 g
            | omega
        rcases hc with ⟨c1, c2⟩ | ⟨c1, c2, c3⟩ | ⟨c1, c2, c3, c4⟩ | ⟨c1, c2, c3, c4⟩
        · rw [c2]
          exact if_neg (by show ¬ (0 : Int) ≤ -1; decide)
        · exact absurd c1 hno
        · exact absurd c1 hno
        · exact absurd c1 hno
      · have h18 := q_b1.mp h18
        refine q_iload (n := 23) dX8_vertexRefusal_21 rfl rfl ?_
        refine q_if_le (n := 26) (t := 60) dX8_vertexRefusal_23 rfl (by decide) (fun h23 => ?_) (fun h23 => ?_)
        · skip
          refine q_iconst (n := 61) dX8_vertexRefusal_60 rfl (k := ?_)
          refine q_iret dX8_vertexRefusal_61 rfl (fun _ => rfl) ?_
          refine ⟨_, rfl, congrArg Sum.inl (Eq.symm ?_), s, rfl, fun _ _ _ => rfl⟩
          have hno : ¬ ((((-20 ≤ x ∧ x ≤ 20) ∧ -20 ≤ y ∧ y ≤ 20)) ∧ tieok (pM (σ 1) 1 1) a b) := by
            rintro ⟨g, t1, t2, t3, t4, t5⟩
            have t3 : b < q_shl 1 (σ 1 1) := t3
            have hbz := (shr_z hb32 (by omega) hn).mpr t3
            have hpo := onS_popc (x := b) ⟨by omega, by omega⟩
            first
              | exact h5 g
              | omega
          rcases hc with ⟨c1, c2⟩ | ⟨c1, c2, c3⟩ | ⟨c1, c2, c3, c4⟩ | ⟨c1, c2, c3, c4⟩
          · rw [c2]
            exact if_neg (by show ¬ (0 : Int) ≤ -1; decide)
          · exact absurd c1 hno
          · exact absurd c1 hno
          · exact absurd c1 hno
        · skip
          refine q_iload (n := 28) dX8_vertexRefusal_26 rfl rfl ?_
          refine q_aload_n (n := 29) dX8_vertexRefusal_28 rfl rfl ?_
          refine q_getR (n := 32) dX8_vertexRefusal_29 rfl fX8_23 mi0 rfl ?_
          refine q_iconst (n := 33) dX8_vertexRefusal_32 rfl (k := ?_)
          refine q_ialoadF (σ 1) (n := 34) dX8_vertexRefusal_33 rfl mi1 ⟨by omega, by omega⟩ rfl ?_
          refine q_ishr (n := 35) dX8_vertexRefusal_34 rfl ?_
          refine q_if_ne (n := 38) (t := 60) dX8_vertexRefusal_35 rfl (by decide) (fun h35 => ?_) (fun h35 => ?_)
          · skip
            refine q_iconst (n := 61) dX8_vertexRefusal_60 rfl (k := ?_)
            refine q_iret dX8_vertexRefusal_61 rfl (fun _ => rfl) ?_
            refine ⟨_, rfl, congrArg Sum.inl (Eq.symm ?_), s, rfl, fun _ _ _ => rfl⟩
            have hno : ¬ ((((-20 ≤ x ∧ x ≤ 20) ∧ -20 ≤ y ∧ y ≤ 20)) ∧ tieok (pM (σ 1) 1 1) a b) := by
              rintro ⟨g, t1, t2, t3, t4, t5⟩
              have t3 : b < q_shl 1 (σ 1 1) := t3
              have hbz := (shr_z hb32 (by omega) hn).mpr t3
              have hpo := onS_popc (x := b) ⟨by omega, by omega⟩
              first
                | exact h5 g
                | omega
            rcases hc with ⟨c1, c2⟩ | ⟨c1, c2, c3⟩ | ⟨c1, c2, c3, c4⟩ | ⟨c1, c2, c3, c4⟩
            · rw [c2]
              exact if_neg (by show ¬ (0 : Int) ≤ -1; decide)
            · exact absurd c1 hno
            · exact absurd c1 hno
            · exact absurd c1 hno
          · skip
            refine q_iload (n := 40) dX8_vertexRefusal_38 rfl rfl ?_
            refine q_c1D (n := 43) dX8_vertexRefusal_40 rfl (zX8_ones _ _ _) vX8_ones lX8_167 rfl rfl ?_
            refine q_iconst (n := 44) dX8_vertexRefusal_43 rfl (k := ?_)
            refine q_icmp_gt (n := 47) (t := 60) dX8_vertexRefusal_44 rfl (by decide) (fun h44 => ?_) (fun h44 => ?_)
            · skip
              refine q_iconst (n := 61) dX8_vertexRefusal_60 rfl (k := ?_)
              refine q_iret dX8_vertexRefusal_61 rfl (fun _ => rfl) ?_
              refine ⟨_, rfl, congrArg Sum.inl (Eq.symm ?_), s, rfl, fun _ _ _ => rfl⟩
              have hno : ¬ ((((-20 ≤ x ∧ x ≤ 20) ∧ -20 ≤ y ∧ y ≤ 20)) ∧ tieok (pM (σ 1) 1 1) a b) := by
                rintro ⟨g, t1, t2, t3, t4, t5⟩
                have t3 : b < q_shl 1 (σ 1 1) := t3
                have hbz := (shr_z hb32 (by omega) hn).mpr t3
                have hpo := onS_popc (x := b) ⟨by omega, by omega⟩
                first
                  | exact h5 g
                  | omega
              rcases hc with ⟨c1, c2⟩ | ⟨c1, c2, c3⟩ | ⟨c1, c2, c3, c4⟩ | ⟨c1, c2, c3, c4⟩
              · rw [c2]
                exact if_neg (by show ¬ (0 : Int) ≤ -1; decide)
              · exact absurd c1 hno
              · exact absurd c1 hno
              · exact absurd c1 hno
            · skip
              refine q_iload_n (n := 48) dX8_vertexRefusal_47 rfl rfl ?_
              refine q_if_lt (n := 51) (t := 62) dX8_vertexRefusal_48 rfl (by decide) (fun h48 => ?_) (fun h48 => ?_)
              · skip
                refine q_iconst (n := 63) dX8_vertexRefusal_62 rfl (k := ?_)
                refine q_istore (n := 65) dX8_vertexRefusal_63 rfl (Nat.le_of_ble_eq_true rfl) (q_s1_s (q_s1_s (q_s1_s (q_s1_s (q_s1_1 rfl))))) ?_
                have hbz := (shr_z hb32 (by omega) hn).mp h35
                have hpo := onS_popc (x := b) ⟨by omega, by omega⟩
                have hti : tieok (pM (σ 1) 1 1) a b := ⟨by omega, by omega, hbz, by omega, by first | omega | (right; have := and1_01 (q_shr b a); omega)⟩
                refine (lpX8_vr σ x y a b hI ⟨by omega, by omega⟩ ⟨by omega, by omega⟩ (σ 1 1).toNat 0 s (by omega) (by decide)).imp ?_
                rintro r σ2 ⟨hr, hs⟩
                refine ⟨_, hr, congrArg Sum.inl (Eq.symm ?_), hs⟩
                rcases hc with ⟨c1, c2⟩ | ⟨c1, c2, c3⟩ | ⟨c1, c2, c3, c4⟩ | ⟨c1, c2, c3, c4⟩
                · exact absurd ⟨h5, hti⟩ c1
                · have e1 : (if 0 ≤ (oV x y a b (pM (σ 1))).1 then 0 else (oV x y a b (pM (σ 1))).1) = -5 := by
                    rw [c3]
                    exact if_neg (by show ¬ (0 : Int) ≤ -5; decide)
                  have c2 : ¬ onAL (pM (σ 1) 2) a b x y (σ 1 1).toNat 0 = true := c2
                  rw [e1, if_pos c2]
                · have e1 : (if 0 ≤ (oV x y a b (pM (σ 1))).1 then 0 else (oV x y a b (pM (σ 1))).1) = -3 := by
                    rw [c4]
                    exact if_neg (by show ¬ (0 : Int) ≤ -3; decide)
                  have c2 : onAL (pM (σ 1) 2) a b x y (σ 1 1).toNat 0 = true := c2
                  have c3 : σ 1 2 = 4 := c3
                  rw [e1, if_neg (fun z => z c2), if_pos c3]
                · have e1 : (if 0 ≤ (oV x y a b (pM (σ 1))).1 then 0 else (oV x y a b (pM (σ 1))).1) = 0 := by
                    rw [c4]
                    exact if_pos (by show 0 ≤ σ 1 2; omega)
                  have c2 : onAL (pM (σ 1) 2) a b x y (σ 1 1).toNat 0 = true := c2
                  have c3 : σ 1 2 ≠ 4 := c3
                  rw [e1, if_neg (fun z => z c2), if_neg c3]
              · skip
                refine q_iload (n := 53) dX8_vertexRefusal_51 rfl rfl ?_
                refine q_iload_n (n := 54) dX8_vertexRefusal_53 rfl rfl ?_
                refine q_c2D (n := 57) dX8_vertexRefusal_54 rfl (zX8_has _ _ _ _) vX8_has lX8_170 rfl rfl ?_
                refine q_if_eq (n := 60) (t := 62) dX8_vertexRefusal_57 rfl (by decide) (fun h57 => ?_) (fun h57 => ?_)
                · have h57 := q_b0.mp h57
                  refine q_iconst (n := 63) dX8_vertexRefusal_62 rfl (k := ?_)
                  refine q_istore (n := 65) dX8_vertexRefusal_63 rfl (Nat.le_of_ble_eq_true rfl) (q_s1_s (q_s1_s (q_s1_s (q_s1_s (q_s1_1 rfl))))) ?_
                  have hbz := (shr_z hb32 (by omega) hn).mp h35
                  have hpo := onS_popc (x := b) ⟨by omega, by omega⟩
                  have hti : tieok (pM (σ 1) 1 1) a b := ⟨by omega, by omega, hbz, by omega, by first | omega | (right; have := and1_01 (q_shr b a); omega)⟩
                  refine (lpX8_vr σ x y a b hI ⟨by omega, by omega⟩ ⟨by omega, by omega⟩ (σ 1 1).toNat 0 s (by omega) (by decide)).imp ?_
                  rintro r σ2 ⟨hr, hs⟩
                  refine ⟨_, hr, congrArg Sum.inl (Eq.symm ?_), hs⟩
                  rcases hc with ⟨c1, c2⟩ | ⟨c1, c2, c3⟩ | ⟨c1, c2, c3, c4⟩ | ⟨c1, c2, c3, c4⟩
                  · exact absurd ⟨h5, hti⟩ c1
                  · have e1 : (if 0 ≤ (oV x y a b (pM (σ 1))).1 then 0 else (oV x y a b (pM (σ 1))).1) = -5 := by
                      rw [c3]
                      exact if_neg (by show ¬ (0 : Int) ≤ -5; decide)
                    have c2 : ¬ onAL (pM (σ 1) 2) a b x y (σ 1 1).toNat 0 = true := c2
                    rw [e1, if_pos c2]
                  · have e1 : (if 0 ≤ (oV x y a b (pM (σ 1))).1 then 0 else (oV x y a b (pM (σ 1))).1) = -3 := by
                      rw [c4]
                      exact if_neg (by show ¬ (0 : Int) ≤ -3; decide)
                    have c2 : onAL (pM (σ 1) 2) a b x y (σ 1 1).toNat 0 = true := c2
                    have c3 : σ 1 2 = 4 := c3
                    rw [e1, if_neg (fun z => z c2), if_pos c3]
                  · have e1 : (if 0 ≤ (oV x y a b (pM (σ 1))).1 then 0 else (oV x y a b (pM (σ 1))).1) = 0 := by
                      rw [c4]
                      exact if_pos (by show 0 ≤ σ 1 2; omega)
                    have c2 : onAL (pM (σ 1) 2) a b x y (σ 1 1).toNat 0 = true := c2
                    have c3 : σ 1 2 ≠ 4 := c3
                    rw [e1, if_neg (fun z => z c2), if_neg c3]
                · have h57 := q_b1.mp h57
                  refine q_iconst (n := 61) dX8_vertexRefusal_60 rfl (k := ?_)
                  refine q_iret dX8_vertexRefusal_61 rfl (fun _ => rfl) ?_
                  refine ⟨_, rfl, congrArg Sum.inl (Eq.symm ?_), s, rfl, fun _ _ _ => rfl⟩
                  have hno : ¬ ((((-20 ≤ x ∧ x ≤ 20) ∧ -20 ≤ y ∧ y ≤ 20)) ∧ tieok (pM (σ 1) 1 1) a b) := by
                    rintro ⟨g, t1, t2, t3, t4, t5⟩
                    have t3 : b < q_shl 1 (σ 1 1) := t3
                    have hbz := (shr_z hb32 (by omega) hn).mpr t3
                    have hpo := onS_popc (x := b) ⟨by omega, by omega⟩
                    first
                      | exact h5 g
                      | omega
                  rcases hc with ⟨c1, c2⟩ | ⟨c1, c2, c3⟩ | ⟨c1, c2, c3, c4⟩ | ⟨c1, c2, c3, c4⟩
                  · rw [c2]
                    exact if_neg (by show ¬ (0 : Int) ≤ -1; decide)
                  · exact absurd c1 hno
                  · exact absurd c1 hno
                  · exact absurd c1 hno
set_option maxRecDepth 100000 in
theorem zX8_vertexComes (x y a b : Int) (σ s : q_S) (hn : 0 ≤ σ 1 2 ∧ σ 1 2 ≤ 3) : q_Ct mX8_vertexComes shM [.inr (.inr 0), .inl x, .inl y, .inl a, .inl b] (ovM σ s) (fun r σ' => r = none ∧ σ' = ovM (vcM x y a b σ) s) := by
  refine q_ct 1 (by decide) rfl rfl ?_
  show q_WP mX8_vertexComes shM 0 [some (.inr (.inr 0)), some (.inl x), some (.inl y), some (.inl a), some (.inl b), none] [] (ovM σ s) _
  refine q_bipush (n := 2) dX8_vertexComes_0 rfl (k := ?_)
  refine q_iconst (n := 3) dX8_vertexComes_2 rfl (k := ?_)
  refine q_aload_n (n := 4) dX8_vertexComes_3 rfl rfl ?_
  refine q_getR (n := 7) dX8_vertexComes_4 rfl fX8_23 mi0 rfl ?_
  refine q_iconst (n := 8) dX8_vertexComes_7 rfl (k := ?_)
  refine q_ialoadF (σ 1) (n := 9) dX8_vertexComes_8 rfl mi1 ⟨by omega, by omega⟩ rfl ?_
  refine q_imulS (n := 10) dX8_vertexComes_9 rfl ⟨by omega, by omega⟩ ?_
  refine q_iaddS (n := 11) dX8_vertexComes_10 rfl ⟨by omega, by omega⟩ ?_
  refine q_istore (n := 13) dX8_vertexComes_11 rfl (Nat.le_of_ble_eq_true rfl) (q_s1_s (q_s1_s (q_s1_s (q_s1_s (q_s1_1 rfl))))) ?_
  refine q_aload_n (n := 14) dX8_vertexComes_13 rfl rfl ?_
  refine q_getR (n := 17) dX8_vertexComes_14 rfl fX8_23 mi0 rfl ?_
  refine q_iload (n := 19) dX8_vertexComes_17 rfl rfl ?_
  refine q_iload_n (n := 20) dX8_vertexComes_19 rfl rfl ?_
  refine q_iastore (n := 21) dX8_vertexComes_20 rfl mi1 ⟨by omega, by omega⟩ ?_
  rw [om_upn rfl]
  refine q_aload_n (n := 22) dX8_vertexComes_21 rfl rfl ?_
  refine q_getR (n := 25) dX8_vertexComes_22 rfl fX8_23 mi0 rfl ?_
  refine q_iload (n := 27) dX8_vertexComes_25 rfl rfl ?_
  refine q_iconst (n := 28) dX8_vertexComes_27 rfl (k := ?_)
  refine q_iaddS (n := 29) dX8_vertexComes_28 rfl ⟨by omega, by omega⟩ ?_
  refine q_iload_n (n := 30) dX8_vertexComes_29 rfl rfl ?_
  refine q_iastore (n := 31) dX8_vertexComes_30 rfl mi1 ⟨by omega, by omega⟩ ?_
  rw [om_upn rfl]
  refine q_aload_n (n := 32) dX8_vertexComes_31 rfl rfl ?_
  refine q_getR (n := 35) dX8_vertexComes_32 rfl fX8_23 mi0 rfl ?_
  refine q_iload (n := 37) dX8_vertexComes_35 rfl rfl ?_
  refine q_iconst (n := 38) dX8_vertexComes_37 rfl (k := ?_)
  refine q_iaddS (n := 39) dX8_vertexComes_38 rfl ⟨by omega, by omega⟩ ?_
  refine q_iload_n (n := 40) dX8_vertexComes_39 rfl rfl ?_
  refine q_iastore (n := 41) dX8_vertexComes_40 rfl mi1 ⟨by omega, by omega⟩ ?_
  rw [om_upn rfl]
  refine q_aload_n (n := 42) dX8_vertexComes_41 rfl rfl ?_
  refine q_getR (n := 45) dX8_vertexComes_42 rfl fX8_23 mi0 rfl ?_
  refine q_iload (n := 47) dX8_vertexComes_45 rfl rfl ?_
  refine q_iconst (n := 48) dX8_vertexComes_47 rfl (k := ?_)
  refine q_iaddS (n := 49) dX8_vertexComes_48 rfl ⟨by omega, by omega⟩ ?_
  refine q_iload (n := 51) dX8_vertexComes_49 rfl rfl ?_
  refine q_iastore (n := 52) dX8_vertexComes_51 rfl mi1 ⟨by omega, by omega⟩ ?_
  rw [om_upn rfl]
  refine q_aload_n (n := 53) dX8_vertexComes_52 rfl rfl ?_
  refine q_getR (n := 56) dX8_vertexComes_53 rfl fX8_23 mi0 rfl ?_
  refine q_iconst (n := 57) dX8_vertexComes_56 rfl (k := ?_)
  refine q_dup2 (n := 58) dX8_vertexComes_57 rfl rfl rfl ?_
  refine q_ialoadE (σ 1 2) (n := 59) dX8_vertexComes_58 rfl mi1 ⟨by omega, by omega⟩ (by rw [om_n rfl, q_up_n (by omega), q_up_n (by omega), q_up_n (by omega), q_up_n (by omega)]) ?_
  refine q_iconst (n := 60) dX8_vertexComes_59 rfl (k := ?_)
  refine q_iaddS (n := 61) dX8_vertexComes_60 rfl ⟨by omega, by omega⟩ ?_
  refine q_iastore (n := 62) dX8_vertexComes_61 rfl mi1 ⟨by omega, by omega⟩ ?_
  rw [om_upn rfl]
  refine q_vret dX8_vertexComes_62 rfl ?_
  exact ⟨rfl, rfl⟩
set_option maxRecDepth 100000 in
theorem zX8_vertex (x y a b : Int) (σ s : q_S) (hI : IM σ) : q_Ct mX8_vertex shM [.inr (.inr 0), .inl x, .inl y, .inl a, .inl b] (ovM σ s) (fun r σ' => ∃ z, r = some z ∧ (z = .inl ((oV x y a b (pM (σ 1))).1) ∧ chM σ (oV x y a b (pM (σ 1))) σ')) := by
  refine q_ct 1 (by decide) rfl rfl ?_
  show q_WP mX8_vertex shM 0 [some (.inr (.inr 0)), some (.inl x), some (.inl y), some (.inl a), some (.inl b), none] [] (ovM σ s) _
  have hn := hI.nt
  have hvv := hI.nv
  have h11 : pM (σ 1) 1 1 = σ 1 1 := rfl
  have h12 : pM (σ 1) 1 2 = σ 1 2 := rfl
  have hc := @oV_c x y a b (pM (σ 1))
  have ek : kpM σ 1 2 = σ 1 2 := kpM_o (by decide) (by decide)
  refine q_aload_n (n := 1) dX8_vertex_0 rfl rfl ?_
  refine q_iload_n (n := 2) dX8_vertex_1 rfl rfl ?_
  refine q_iload_n (n := 3) dX8_vertex_2 rfl rfl ?_
  refine q_iload_n (n := 4) dX8_vertex_3 rfl rfl ?_
  refine q_iload (n := 6) dX8_vertex_4 rfl rfl ?_
  refine q_v4 (n := 9) dX8_vertex_6 rfl (zX8_vertexRefusal x y a b σ _ hI) vX8_vertexRefusal lX8_177 rfl rfl mi0 rfl (fun v6 σ6 h6 => ?_)
  obtain ⟨rfl, s6, rfl, hfr6⟩ := h6
  · skip
    refine q_istore (n := 11) dX8_vertex_9 rfl (Nat.le_of_ble_eq_true rfl) (q_s1_s (q_s1_s (q_s1_s (q_s1_s (q_s1_1 rfl))))) ?_
    refine q_iload (n := 13) dX8_vertex_11 rfl rfl ?_
    refine q_if_eq (n := 16) (t := 19) dX8_vertex_13 rfl (by decide) (fun h13 => ?_) (fun h13 => ?_)
    · have hp : 0 ≤ (oV x y a b (pM (σ 1))).1 := by
        by_cases z : 0 ≤ (oV x y a b (pM (σ 1))).1
        · exact z
        · rw [if_neg z] at h13
          omega
      have hk : pM (σ 1) 1 2 ≠ 4 ∧ oV x y a b (pM (σ 1)) = (pM (σ 1) 1 2, newV x y a b (pM (σ 1))) := by
        rcases hc with ⟨c1, c2⟩ | ⟨c1, c2, c3⟩ | ⟨c1, c2, c3, c4⟩ | ⟨c1, c2, c3, c4⟩
        · rw [c2] at hp
          exact absurd hp (by show ¬ (0 : Int) ≤ -1; decide)
        · rw [c3] at hp
          exact absurd hp (by show ¬ (0 : Int) ≤ -5; decide)
        · rw [c4] at hp
          exact absurd hp (by show ¬ (0 : Int) ≤ -3; decide)
        · exact ⟨c3, c4⟩
      refine q_aload_n (n := 20) dX8_vertex_19 rfl rfl ?_
      refine q_v0U (n := 23) dX8_vertex_20 rfl (zX8_keeps σ _ hI) vX8_keeps lX8_141 rfl rfl mi0 rfl ?_
      refine q_aload_n (n := 24) dX8_vertex_23 rfl rfl ?_
      refine q_iload_n (n := 25) dX8_vertex_24 rfl rfl ?_
      refine q_iload_n (n := 26) dX8_vertex_25 rfl rfl ?_
      refine q_iload_n (n := 27) dX8_vertex_26 rfl rfl ?_
      refine q_iload (n := 29) dX8_vertex_27 rfl rfl ?_
      refine q_v4U (n := 32) dX8_vertex_29 rfl (zX8_vertexComes x y a b (kpM σ) _ ⟨by omega, by omega⟩) vX8_vertexComes lX8_181 rfl rfl mi0 rfl ?_
      refine q_aload_n (n := 33) dX8_vertex_32 rfl rfl ?_
      refine q_getR (n := 36) dX8_vertex_33 rfl fX8_23 mi0 rfl ?_
      refine q_iconst (n := 37) dX8_vertex_36 rfl (k := ?_)
      refine q_ialoadE (σ 1 2 + 1) (n := 38) dX8_vertex_37 rfl mi1 ⟨by omega, by omega⟩ (by rw [om_n rfl, ← ek]; exact q_up_s) ?_
      refine q_iconst (n := 39) dX8_vertex_38 rfl (k := ?_)
      refine q_isubS (n := 40) dX8_vertex_39 rfl ⟨by omega, by omega⟩ ?_
      refine q_iret dX8_vertex_40 rfl (fun _ => rfl) ?_
      refine ⟨_, rfl, congrArg Sum.inl ?_, Or.inl ⟨hp, _, s6, rfl, fun c hc => ?_, ?_, ?_⟩⟩
      · rw [hk.2, Int.add_sub_cancel]
        rfl
      · unfold vcM
        rw [q_up_o hc, q_up_o hc, q_up_o hc, q_up_o hc, q_up_o hc]
      · rw [hk.2]
        have h := vcM_pE (x := x) (y := y) (a := a) (b := b) (σ := kpM σ) ⟨by omega, by omega⟩
        rw [kpM_1] at h
        exact h
      · exact vcM_KR ⟨by omega, by omega⟩ (by rw [kpM_1]; omega) (by rw [kpM_1]; exact hI.2.1)
    · have hp : ¬ 0 ≤ (oV x y a b (pM (σ 1))).1 := fun z => h13 (if_pos z)
      refine q_iload (n := 18) dX8_vertex_16 rfl rfl ?_
      refine q_iret dX8_vertex_18 rfl (fun _ => rfl) ?_
      exact ⟨_, rfl, congrArg Sum.inl (if_neg hp), Or.inr ⟨by omega, s6, rfl⟩⟩
theorem KR_c1 {n : Int → Int} {i v : Int} (h : KR n) (hi : 0 ≤ i ∧ i < 3) (h1 : i = 1 → v ≤ n 1) : KR (fun x => if x = i then v else n x) := by
  intro t t0 t1
  dsimp only at t1 ⊢
  rw [if_neg (by omega)]
  refine h t t0 ?_
  by_cases e : (1 : Int) = i
  · rw [if_pos e] at t1
    have := h1 e.symm
    omega
  · rw [if_neg e] at t1
    exact t1
set_option maxRecDepth 100000 in
theorem zX8_drop (σ s : q_S) (hI : IM σ) : q_Ct mX8_drop shM [.inr (.inr 0)] (ovM σ s) (fun r σ' => ∃ z, r = some z ∧ (z = .inl ((oD (pM (σ 1))).1) ∧ chM σ (oD (pM (σ 1))) σ')) := by
  refine q_ct 0 (by decide) rfl rfl ?_
  show q_WP mX8_drop shM 0 [some (.inr (.inr 0))] [] (ovM σ s) _
  have hvv := hI.nv
  have ek : kpM σ 1 2 = σ 1 2 := kpM_o (by decide) (by decide)
  refine q_aload_n (n := 1) dX8_drop_0 rfl rfl ?_
  refine q_getR (n := 4) dX8_drop_1 rfl fX8_23 mi0 rfl ?_
  refine q_iconst (n := 5) dX8_drop_4 rfl (k := ?_)
  refine q_ialoadF (σ 1) (n := 6) dX8_drop_5 rfl mi1 ⟨by omega, by omega⟩ rfl ?_
  refine q_if_ne (n := 9) (t := 12) dX8_drop_6 rfl (by decide) (fun h6 => ?_) (fun h6 => ?_)
  · have eo : oD (pM (σ 1)) = (σ 1 2 - 1, q_up (pM (σ 1)) 1 2 (σ 1 2 - 1)) := if_neg h6
    refine q_aload_n (n := 13) dX8_drop_12 rfl rfl ?_
    refine q_v0U (n := 16) dX8_drop_13 rfl (zX8_keeps σ _ hI) vX8_keeps lX8_141 rfl rfl mi0 rfl ?_
    refine q_aload_n (n := 17) dX8_drop_16 rfl rfl ?_
    refine q_getR (n := 20) dX8_drop_17 rfl fX8_23 mi0 rfl ?_
    refine q_iconst (n := 21) dX8_drop_20 rfl (k := ?_)
    refine q_dup2 (n := 22) dX8_drop_21 rfl rfl rfl ?_
    refine q_ialoadE (σ 1 2) (n := 23) dX8_drop_22 rfl mi1 ⟨by omega, by omega⟩ ((om_n rfl).trans ek) ?_
    refine q_iconst (n := 24) dX8_drop_23 rfl (k := ?_)
    refine q_isubS (n := 25) dX8_drop_24 rfl ⟨by omega, by omega⟩ ?_
    refine q_iastore (n := 26) dX8_drop_25 rfl mi1 ⟨by omega, by omega⟩ ?_
    rw [om_upn rfl]
    refine q_aload_n (n := 27) dX8_drop_26 rfl rfl ?_
    refine q_getR (n := 30) dX8_drop_27 rfl fX8_23 mi0 rfl ?_
    refine q_iconst (n := 31) dX8_drop_30 rfl (k := ?_)
    refine q_ialoadE (σ 1 2 - 1) (n := 32) dX8_drop_31 rfl mi1 ⟨by omega, by omega⟩ ((om_n rfl).trans q_up_s) ?_
    refine q_iret dX8_drop_32 rfl (fun _ => rfl) ?_
    refine ⟨_, rfl, by rw [eo], Or.inl ⟨?_, _, s, rfl, fun c hc => q_up_o hc, ?_, ?_⟩⟩
    · rw [eo]
      show 0 ≤ σ 1 2 - 1
      omega
    · rw [eo, up_fn, kpM_1]
      exact c1_pE ⟨by decide, by decide⟩
    · rw [up_fn, kpM_1]
      exact KR_c1 hI.2.1 ⟨by decide, by decide⟩ (fun z => absurd z (by decide))
  · have eo : oD (pM (σ 1)) = (-5, pM (σ 1)) := if_pos h6
    refine q_bipush (n := 11) dX8_drop_9 rfl (k := ?_)
    refine q_iret dX8_drop_11 rfl (fun _ => rfl) ?_
    exact ⟨_, rfl, by rw [eo], Or.inr ⟨by rw [eo]; show (-5 : Int) < 0; decide, s, rfl⟩⟩
set_option maxRecDepth 100000 in
theorem lpX8_wi (σ s : q_S) (hI : IM σ) (h1 : σ 1 1 ≠ 0) : ∀ (n : Nat) (i : Int), (n : Int) + i = σ 1 2 → 0 ≤ i → rmB (pM (σ 1) 6) (pM (σ 1) 7) (σ 1 1 - 1) n i = rmB (pM (σ 1) 6) (pM (σ 1) 7) (σ 1 1 - 1) (σ 1 2).toNat 0 → q_WP mX8_wipe shM 18 [some (.inr (.inr 0)), some (.inl (σ 1 1 - 1)), some (.inl i)] [] (ovM σ s) (fun r σ' => ∃ z, r = some z ∧ (z = .inl ((oW (pM (σ 1))).1) ∧ chM σ (oW (pM (σ 1))) σ')) := by
  have hn := hI.nt
  have hvv := hI.nv
  have ek : kpM σ 1 1 = σ 1 1 := kpM_o (by decide) (by decide)
  intro n
  induction n with
  | zero =>
    intro i hi h0 hr
    have hr2 : rmB (pM (σ 1) 6) (pM (σ 1) 7) (σ 1 1 - 1) (σ 1 2).toNat 0 = false := hr.symm
    have eo : oW (pM (σ 1)) = (σ 1 1 - 1, q_up (pM (σ 1)) 1 1 (σ 1 1 - 1)) := if_neg (fun z => z.elim h1 (fun z => by
      have z : rmB (pM (σ 1) 6) (pM (σ 1) 7) (σ 1 1 - 1) (σ 1 2).toNat 0 = true := z
      rw [hr2] at z
      cases z))
    refine q_iload_n (n := 19) dX8_wipe_18 rfl rfl ?_
    refine q_aload_n (n := 20) dX8_wipe_19 rfl rfl ?_
    refine q_getR (n := 23) dX8_wipe_20 rfl fX8_23 mi0 rfl ?_
    refine q_iconst (n := 24) dX8_wipe_23 rfl (k := ?_)
    refine q_ialoadF (σ 1) (n := 25) dX8_wipe_24 rfl mi1 ⟨by omega, by omega⟩ rfl ?_
    refine q_icmp_ge (n := 28) (t := 60) dX8_wipe_25 rfl (by decide) (fun h25 => ?_) (fun h25 => ?_)
    · skip
      refine q_aload_n (n := 61) dX8_wipe_60 rfl rfl ?_
      refine q_v0U (n := 64) dX8_wipe_61 rfl (zX8_keeps σ _ hI) vX8_keeps lX8_141 rfl rfl mi0 rfl ?_
      refine q_aload_n (n := 65) dX8_wipe_64 rfl rfl ?_
      refine q_getR (n := 68) dX8_wipe_65 rfl fX8_23 mi0 rfl ?_
      refine q_iconst (n := 69) dX8_wipe_68 rfl (k := ?_)
      refine q_dup2 (n := 70) dX8_wipe_69 rfl rfl rfl ?_
      refine q_ialoadE (σ 1 1) (n := 71) dX8_wipe_70 rfl mi1 ⟨by omega, by omega⟩ ((om_n rfl).trans ek) ?_
      refine q_iconst (n := 72) dX8_wipe_71 rfl (k := ?_)
      refine q_isubS (n := 73) dX8_wipe_72 rfl ⟨by omega, by omega⟩ ?_
      refine q_iastore (n := 74) dX8_wipe_73 rfl mi1 ⟨by omega, by omega⟩ ?_
      rw [om_upn rfl]
      refine q_aload_n (n := 75) dX8_wipe_74 rfl rfl ?_
      refine q_getR (n := 78) dX8_wipe_75 rfl fX8_23 mi0 rfl ?_
      refine q_iconst (n := 79) dX8_wipe_78 rfl (k := ?_)
      refine q_ialoadE (σ 1 1 - 1) (n := 80) dX8_wipe_79 rfl mi1 ⟨by omega, by omega⟩ ((om_n rfl).trans q_up_s) ?_
      refine q_iret dX8_wipe_80 rfl (fun _ => rfl) ?_
      refine ⟨_, rfl, by rw [eo], Or.inl ⟨?_, _, s, rfl, fun c hc => q_up_o hc, ?_, ?_⟩⟩
      · rw [eo]
        show 0 ≤ σ 1 1 - 1
        omega
      · rw [eo, up_fn, kpM_1]
        exact c1_pE ⟨by decide, by decide⟩
      · rw [up_fn, kpM_1]
        exact KR_c1 hI.2.1 ⟨by decide, by decide⟩ (fun _ => by omega)
    · exact absurd h25 (by omega)
  | succ n ih =>
    intro i hi h0 hr
    rw [rmB] at hr
    refine q_iload_n (n := 19) dX8_wipe_18 rfl rfl ?_
    refine q_aload_n (n := 20) dX8_wipe_19 rfl rfl ?_
    refine q_getR (n := 23) dX8_wipe_20 rfl fX8_23 mi0 rfl ?_
    refine q_iconst (n := 24) dX8_wipe_23 rfl (k := ?_)
    refine q_ialoadF (σ 1) (n := 25) dX8_wipe_24 rfl mi1 ⟨by omega, by omega⟩ rfl ?_
    refine q_icmp_ge (n := 28) (t := 60) dX8_wipe_25 rfl (by decide) (fun h25 => ?_) (fun h25 => ?_)
    · exact absurd h25 (by omega)
    · skip
      refine q_aload_n (n := 29) dX8_wipe_28 rfl rfl ?_
      refine q_iload_n (n := 30) dX8_wipe_29 rfl rfl ?_
      refine q_iconst (n := 31) dX8_wipe_30 rfl (k := ?_)
      refine q_v2D (n := 34) dX8_wipe_31 rfl (zX8_vP2 i σ _ ⟨h0, by omega⟩) vX8_vertexAt lX8_185 rfl rfl mi0 rfl ?_
      refine q_iload_n (n := 35) dX8_wipe_34 rfl rfl ?_
      refine q_icmp_eq (n := 38) (t := 51) dX8_wipe_35 rfl (by decide) (fun h35 => ?_) (fun h35 => ?_)
      · skip
        refine q_bipush (n := 53) dX8_wipe_51 rfl (k := ?_)
        refine q_iret dX8_wipe_53 rfl (fun _ => rfl) ?_
        have hb : pM (σ 1) 6 i = σ 1 1 - 1 ∨ q_and (q_shr (pM (σ 1) 7 i) (σ 1 1 - 1)) 1 = 1 := by first | exact Or.inl h35 | exact Or.inr h48
        rw [if_pos hb] at hr
        have eo : oW (pM (σ 1)) = (-5, pM (σ 1)) := if_pos (Or.inr hr.symm)
        exact ⟨_, rfl, by rw [eo], Or.inr ⟨by rw [eo]; show (-5 : Int) < 0; decide, s, rfl⟩⟩
      · skip
        refine q_aload_n (n := 39) dX8_wipe_38 rfl rfl ?_
        refine q_iload_n (n := 40) dX8_wipe_39 rfl rfl ?_
        refine q_iconst (n := 41) dX8_wipe_40 rfl (k := ?_)
        refine q_v2D (n := 44) dX8_wipe_41 rfl (zX8_vP3 i σ _ ⟨h0, by omega⟩) vX8_vertexAt lX8_185 rfl rfl mi0 rfl ?_
        refine q_iload_n (n := 45) dX8_wipe_44 rfl rfl ?_
        refine q_c2D (n := 48) dX8_wipe_45 rfl (zX8_has _ _ _ _) vX8_has lX8_170 rfl rfl ?_
        refine q_if_eq (n := 51) (t := 54) dX8_wipe_48 rfl (by decide) (fun h48 => ?_) (fun h48 => ?_)
        · have h48 := q_b0.mp h48
          refine q_iinc (n := 57) dX8_wipe_54 rfl (Nat.le_of_ble_eq_true rfl) rfl (q_nwid ⟨by omega, by omega⟩) (q_s1_s (q_s1_1 rfl)) ?_
          refine q_go (t := 18) dX8_wipe_57 (by decide) ?_
          rw [if_neg (fun z => z.elim (fun z => h35 z) (fun z => h48 z))] at hr
          exact ih (i + 1) (by omega) (by omega) hr
        · have h48 := q_b1.mp h48
          refine q_bipush (n := 53) dX8_wipe_51 rfl (k := ?_)
          refine q_iret dX8_wipe_53 rfl (fun _ => rfl) ?_
          have hb : pM (σ 1) 6 i = σ 1 1 - 1 ∨ q_and (q_shr (pM (σ 1) 7 i) (σ 1 1 - 1)) 1 = 1 := by first | exact Or.inl h35 | exact Or.inr h48
          rw [if_pos hb] at hr
          have eo : oW (pM (σ 1)) = (-5, pM (σ 1)) := if_pos (Or.inr hr.symm)
          exact ⟨_, rfl, by rw [eo], Or.inr ⟨by rw [eo]; show (-5 : Int) < 0; decide, s, rfl⟩⟩
set_option maxRecDepth 100000 in
theorem zX8_wipe (σ s : q_S) (hI : IM σ) : q_Ct mX8_wipe shM [.inr (.inr 0)] (ovM σ s) (fun r σ' => ∃ z, r = some z ∧ (z = .inl ((oW (pM (σ 1))).1) ∧ chM σ (oW (pM (σ 1))) σ')) := by
  refine q_ct 2 (by decide) rfl rfl ?_
  show q_WP mX8_wipe shM 0 [some (.inr (.inr 0)), none, none] [] (ovM σ s) _
  have hn := hI.nt
  have hvv := hI.nv
  refine q_aload_n (n := 1) dX8_wipe_0 rfl rfl ?_
  refine q_getR (n := 4) dX8_wipe_1 rfl fX8_23 mi0 rfl ?_
  refine q_iconst (n := 5) dX8_wipe_4 rfl (k := ?_)
  refine q_ialoadF (σ 1) (n := 6) dX8_wipe_5 rfl mi1 ⟨by omega, by omega⟩ rfl ?_
  refine q_iconst (n := 7) dX8_wipe_6 rfl (k := ?_)
  refine q_isubS (n := 8) dX8_wipe_7 rfl ⟨by omega, by omega⟩ ?_
  refine q_istore_n (n := 9) dX8_wipe_8 rfl (Nat.le_of_ble_eq_true rfl) (q_s1_1 rfl) ?_
  refine q_iload_n (n := 10) dX8_wipe_9 rfl rfl ?_
  refine q_if_ge (n := 13) (t := 16) dX8_wipe_10 rfl (by decide) (fun h10 => ?_) (fun h10 => ?_)
  · skip
    refine q_iconst (n := 17) dX8_wipe_16 rfl (k := ?_)
    refine q_istore_n (n := 18) dX8_wipe_17 rfl (Nat.le_of_ble_eq_true rfl) (q_s1_s (q_s1_1 rfl)) ?_
    exact lpX8_wi σ s hI (by omega) (σ 1 2).toNat 0 (by omega) (by decide) rfl
  · skip
    refine q_bipush (n := 15) dX8_wipe_13 rfl (k := ?_)
    refine q_iret dX8_wipe_15 rfl (fun _ => rfl) ?_
    have h0 : σ 1 1 = 0 := by omega
    have eo : oW (pM (σ 1)) = (-5, pM (σ 1)) := if_pos (Or.inl h0)
    exact ⟨_, rfl, by rw [eo], Or.inr ⟨by rw [eo]; show (-5 : Int) < 0; decide, s, rfl⟩⟩
