theorem zP_goes0 (σ s : q_S) (hI : IM σ) : q_Ct mX8_goesThrough shM [.inr (.inr 0), .inl 0] (ovM σ s) (fun r σ' => ∃ z, r = some z ∧ ((0 ≤ pA (tT (tx σ)) (σ 0 28) ∧ z = .inl (-1000 - pA (tT (tx σ)) (σ 0 28)) ∧ ∃ s', σ' = ovM σ s') ∨ (¬ 0 ≤ pA (tT (tx σ)) (σ 0 28) ∧ ∃ c', 0 ≤ c' ∧ z = .inl c' ∧ ∃ s', σ' = ovM σ s'))) := by
  refine (zX8_goesThrough0 σ s hI).imp ?_
  rintro r σ' (⟨h1, h2, h3⟩ | ⟨h1, c, h2, h3, h4⟩)
  · exact ⟨_, h2, Or.inl ⟨h1, rfl, h3⟩⟩
  · exact ⟨_, h3, Or.inr ⟨by omega, c, h2, rfl, h4⟩⟩
theorem zP_goes1 (σ s : q_S) (hI : IM σ) (hX : ¬ 0 ≤ pA (tT (tx σ)) (σ 0 28)) : q_Ct mX8_goesThrough shM [.inr (.inr 0), .inl 1] (ovM σ s) (fun r σ' => ∃ z, r = some z ∧ (z = .inl (dA (tT (tx σ)) (pM (σ 1))).1 ∧ (((dA (tT (tx σ)) (pM (σ 1))).2.1 = true ∧ 0 ≤ (dA (tT (tx σ)) (pM (σ 1))).1) ∨ ((dA (tT (tx σ)) (pM (σ 1))).2.1 = false ∧ (dA (tT (tx σ)) (pM (σ 1))).1 < 0)) ∧ ∃ σ2 s', σ' = ovM σ2 s' ∧ (∀ x : Int, s' 16 x = s 16 x) ∧ (∀ c' : Int, c' ≠ 1 → σ2 c' = σ c') ∧ pE (pM (σ2 1)) (dA (tT (tx σ)) (pM (σ 1))).2.2 ∧ KR (σ2 1))) := by
  refine (zX8_goesThrough1 σ s hI hX).imp ?_
  rintro r σ' ⟨h1, h2, h3⟩
  exact ⟨_, h2, rfl, h1, h3⟩
set_option maxRecDepth 100000 in
theorem zX8_reads (σ s : q_S) (hI : IM σ) : q_Ct mX8_reads shM [.inr (.inr 0)] (ovM σ s) (fun r σ' => ∃ z, r = some z ∧ ((0 ≤ pA (tT (tx σ)) (σ 0 28) ∧ z = .inl (-1000 - pA (tT (tx σ)) (σ 0 28)) ∧ ∃ s', σ' = ovM (q_up σ 0 28 0) s') ∨ (¬ 0 ≤ pA (tT (tx σ)) (σ 0 28) ∧ z = .inl (dA (tT (tx σ)) (pM (σ 1))).1 ∧ (((dA (tT (tx σ)) (pM (σ 1))).2.1 = true ∧ ∃ σ1 s', σ' = ovM σ1 s' ∧ (∀ c x : Int, c ≠ 1 → ¬ (c = 0 ∧ (x = 9 ∨ x = 28)) → σ1 c x = σ c x) ∧ σ1 0 9 = 0 ∧ σ1 0 28 = 0 ∧ pE (pM (σ1 1)) (dA (tT (tx σ)) (pM (σ 1))).2.2 ∧ KR (σ1 1)) ∨ ((dA (tT (tx σ)) (pM (σ 1))).2.1 = false ∧ ∃ σ1 s', σ' = ovM σ1 s' ∧ (∀ c x : Int, c ≠ 1 → ¬ (c = 0 ∧ x = 28) → σ1 c x = σ c x) ∧ σ1 0 28 = 0 ∧ ∀ x : Int, 0 ≤ x → x < 80 → σ1 1 x = σ 1 x))))) := by
  refine q_ct 1 (by decide) rfl rfl ?_
  show q_WP mX8_reads shM 0 [some (.inr (.inr 0)), none] [] (ovM σ s) _
  have hl := hI.2.2.2.2.1
  refine q_aload_n (n := 1) dX8_reads_0 rfl rfl ?_
  refine q_iconst (n := 2) dX8_reads_1 rfl (k := ?_)
  refine q_v1 (n := 5) dX8_reads_2 rfl (zP_goes0 σ s hI) vX8_goesThrough lX8_359 rfl rfl mi0 rfl (fun v2 σ2 h2 => ?_)
  rcases h2 with ⟨hX, rfl, s2, rfl⟩ | ⟨hX, c, hc, rfl, s2, rfl⟩
  · skip
    refine q_istore_n (n := 6) dX8_reads_5 rfl (Nat.le_of_ble_eq_true rfl) (q_s1_1 rfl) ?_
    refine q_iload_n (n := 7) dX8_reads_6 rfl rfl ?_
    refine q_if_lt (n := 10) (t := 54) dX8_reads_7 rfl (by decide) (fun h7 => ?_) (fun h7 => ?_)
    · skip
      first
        | rw [om_upn rfl]
        | skip
      refine q_aload_n (n := 55) dX8_reads_54 rfl rfl ?_
      refine q_iconst (n := 56) dX8_reads_55 rfl (k := ?_)
      refine q_putI (kI := 28) (n := 59) dX8_reads_56 rfl pX8_201 mi0 rfl rfl ?_
      rw [om_upn rfl]
      refine q_iload_n (n := 60) dX8_reads_59 rfl rfl ?_
      refine q_iret dX8_reads_60 rfl (fun _ => rfl) ?_
      first
        | exact ⟨_, rfl, Or.inl ⟨hX, rfl, _, rfl⟩⟩
        | (have hd : (dA (tT (tx σ)) (pM (σ 1))).2.1 = true := by
             rcases hD with z | z
             · exact z.1
             · exact absurd z.2 (by omega)
           refine ⟨_, rfl, Or.inr ⟨hX, rfl, Or.inl ⟨hd, _, s3, rfl, fun c x h1 h2 => ?_, ?_, q_up_s, ?_, ?_⟩⟩⟩
           · rw [q_up_n (by omega), q_up_n (by omega), hb c h1]
           · rw [q_up_n (by decide), q_up_s]
           · rw [q_up_o (by decide), q_up_o (by decide)]
             exact hp
           · rw [q_up_o (by decide), q_up_o (by decide)]
             exact hk)
        | (have hd : (dA (tT (tx σ)) (pM (σ 1))).2.1 = false := by
             rcases hD with z | z
             · exact absurd z.2 (by omega)
             · exact z.1
           refine ⟨_, rfl, Or.inr ⟨hX, rfl, Or.inr ⟨hd, _, s3, rfl, fun c x h1 h2 => ?_, q_up_s, fun x x0 x1 => ?_⟩⟩⟩
           · rw [q_up_n (by omega), if_neg (fun z => h1 z.1), hb c h1]
           · rw [q_up_n (by omega), if_pos ⟨rfl, x0, by omega⟩, h16, if_pos ⟨rfl, by omega, by omega⟩]
             congr 1
             omega)
    · exact absurd h7 (by omega)
  · skip
    refine q_istore_n (n := 6) dX8_reads_5 rfl (Nat.le_of_ble_eq_true rfl) (q_s1_1 rfl) ?_
    refine q_iload_n (n := 7) dX8_reads_6 rfl rfl ?_
    refine q_if_lt (n := 10) (t := 54) dX8_reads_7 rfl (by decide) (fun h7 => ?_) (fun h7 => ?_)
    · exact absurd h7 (by omega)
    · skip
      refine q_aload_n (n := 11) dX8_reads_10 rfl rfl ?_
      refine q_getR (n := 14) dX8_reads_11 rfl fX8_23 mi0 rfl ?_
      refine q_iconst (n := 15) dX8_reads_14 rfl (k := ?_)
      refine q_aload_n (n := 16) dX8_reads_15 rfl rfl ?_
      refine q_getR (n := 19) dX8_reads_16 rfl fX8_69 mi0 rfl ?_
      refine q_iconst (n := 20) dX8_reads_19 rfl (k := ?_)
      refine q_c4U (n := 23) dX8_reads_20 rfl (zX8_copies_1_16 _ _ _ ⟨by omega, by omega⟩ ⟨by omega, by omega⟩) vX8_copies lX8_97 rfl rfl ?_
      rw [om_cpyt (fun _ => rfl) (fun _ => rfl)]
      refine q_aload_n (n := 24) dX8_reads_23 rfl rfl ?_
      refine q_iconst (n := 25) dX8_reads_24 rfl (k := ?_)
      refine q_v1 (n := 28) dX8_reads_25 rfl (zP_goes1 σ _ hI hX) vX8_goesThrough lX8_359 rfl rfl mi0 rfl (fun v25 σ25 h25 => ?_)
      obtain ⟨rfl, hD, σ2, s3, rfl, h16, hb, hp, hk⟩ := h25
      · skip
        refine q_istore_n (n := 29) dX8_reads_28 rfl (Nat.le_of_ble_eq_true rfl) (q_s1_1 rfl) ?_
        refine q_iload_n (n := 30) dX8_reads_29 rfl rfl ?_
        refine q_if_ge (n := 33) (t := 49) dX8_reads_30 rfl (by decide) (fun h30 => ?_) (fun h30 => ?_)
        · skip
          refine q_aload_n (n := 50) dX8_reads_49 rfl rfl ?_
          refine q_iconst (n := 51) dX8_reads_50 rfl (k := ?_)
          refine q_putI (kI := 9) (n := 54) dX8_reads_51 rfl pX8_94 mi0 rfl rfl ?_
          first
            | rw [om_upn rfl]
            | skip
          refine q_aload_n (n := 55) dX8_reads_54 rfl rfl ?_
          refine q_iconst (n := 56) dX8_reads_55 rfl (k := ?_)
          refine q_putI (kI := 28) (n := 59) dX8_reads_56 rfl pX8_201 mi0 rfl rfl ?_
          rw [om_upn rfl]
          refine q_iload_n (n := 60) dX8_reads_59 rfl rfl ?_
          refine q_iret dX8_reads_60 rfl (fun _ => rfl) ?_
          first
            | exact ⟨_, rfl, Or.inl ⟨hX, rfl, _, rfl⟩⟩
            | (have hd : (dA (tT (tx σ)) (pM (σ 1))).2.1 = true := by
                 rcases hD with z | z
                 · exact z.1
                 · exact absurd z.2 (by omega)
               refine ⟨_, rfl, Or.inr ⟨hX, rfl, Or.inl ⟨hd, _, s3, rfl, fun c x h1 h2 => ?_, ?_, q_up_s, ?_, ?_⟩⟩⟩
               · rw [q_up_n (by omega), q_up_n (by omega), hb c h1]
               · rw [q_up_n (by decide), q_up_s]
               · rw [q_up_o (by decide), q_up_o (by decide)]
                 exact hp
               · rw [q_up_o (by decide), q_up_o (by decide)]
                 exact hk)
            | (have hd : (dA (tT (tx σ)) (pM (σ 1))).2.1 = false := by
                 rcases hD with z | z
                 · exact absurd z.2 (by omega)
                 · exact z.1
               refine ⟨_, rfl, Or.inr ⟨hX, rfl, Or.inr ⟨hd, _, s3, rfl, fun c x h1 h2 => ?_, q_up_s, fun x x0 x1 => ?_⟩⟩⟩
               · rw [q_up_n (by omega), if_neg (fun z => h1 z.1), hb c h1]
               · rw [q_up_n (by omega), if_pos ⟨rfl, x0, by omega⟩, h16, if_pos ⟨rfl, by omega, by omega⟩]
                 congr 1
                 omega)
        · skip
          refine q_aload_n (n := 34) dX8_reads_33 rfl rfl ?_
          refine q_getR (n := 37) dX8_reads_34 rfl fX8_69 mi0 rfl ?_
          refine q_iconst (n := 38) dX8_reads_37 rfl (k := ?_)
          refine q_aload_n (n := 39) dX8_reads_38 rfl rfl ?_
          refine q_getR (n := 42) dX8_reads_39 rfl fX8_23 mi0 rfl ?_
          refine q_iconst (n := 43) dX8_reads_42 rfl (k := ?_)
          refine q_c4U (n := 46) dX8_reads_43 rfl (zX8_copies_16_1 _ _ _ ⟨by omega, by omega⟩ ⟨by omega, by omega⟩) vX8_copies lX8_97 rfl rfl ?_
          rw [om_cpyf (fun _ => rfl) (fun _ => rfl)]
          refine q_go (t := 54) dX8_reads_46 (by decide) ?_
          first
            | rw [om_upn rfl]
            | skip
          refine q_aload_n (n := 55) dX8_reads_54 rfl rfl ?_
          refine q_iconst (n := 56) dX8_reads_55 rfl (k := ?_)
          refine q_putI (kI := 28) (n := 59) dX8_reads_56 rfl pX8_201 mi0 rfl rfl ?_
          rw [om_upn rfl]
          refine q_iload_n (n := 60) dX8_reads_59 rfl rfl ?_
          refine q_iret dX8_reads_60 rfl (fun _ => rfl) ?_
          first
            | exact ⟨_, rfl, Or.inl ⟨hX, rfl, _, rfl⟩⟩
            | (have hd : (dA (tT (tx σ)) (pM (σ 1))).2.1 = true := by
                 rcases hD with z | z
                 · exact z.1
                 · exact absurd z.2 (by omega)
               refine ⟨_, rfl, Or.inr ⟨hX, rfl, Or.inl ⟨hd, _, s3, rfl, fun c x h1 h2 => ?_, ?_, q_up_s, ?_, ?_⟩⟩⟩
               · rw [q_up_n (by omega), q_up_n (by omega), hb c h1]
               · rw [q_up_n (by decide), q_up_s]
               · rw [q_up_o (by decide), q_up_o (by decide)]
                 exact hp
               · rw [q_up_o (by decide), q_up_o (by decide)]
                 exact hk)
            | (have hd : (dA (tT (tx σ)) (pM (σ 1))).2.1 = false := by
                 rcases hD with z | z
                 · exact absurd z.2 (by omega)
                 · exact z.1
               refine ⟨_, rfl, Or.inr ⟨hX, rfl, Or.inr ⟨hd, _, s3, rfl, fun c x h1 h2 => ?_, q_up_s, fun x x0 x1 => ?_⟩⟩⟩
               · rw [q_up_n (by omega), if_neg (fun z => h1 z.1), hb c h1]
               · rw [q_up_n (by omega), if_pos ⟨rfl, x0, by omega⟩, h16, if_pos ⟨rfl, by omega, by omega⟩]
                 congr 1
                 omega)
