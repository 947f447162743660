theorem tx_c1 {σ σ2 : q_S} (h : ∀ c : Int, c ≠ 1 → σ2 c = σ c) : tx σ2 = tx σ := by
  unfold tx
  rw [h 0 (by decide), h 14 (by decide)]
theorem IM_c1 {σ σ2 : q_S} (hI : IM σ) (h1 : IPs (pM (σ2 1))) (h2 : KR (σ2 1)) (h : ∀ c : Int, c ≠ 1 → σ2 c = σ c) : IM σ2 :=
  IM_of hI h1 h2 (fun c c0 c1 => h c (by omega)) (by rw [h 0 (by decide)]; exact hI.2.2.2.1) (by rw [h 0 (by decide)]) (h 14 (by decide)) (by rw [h 0 (by decide)]) (h 18 (by decide))
set_option maxHeartbeats 1000000 in
set_option maxRecDepth 100000 in
theorem lpX8_gt (σ : q_S) : ∀ (n : Nat) (p w c : Int) (rd : Int → Int) (o4 o5 : Option q_V) (σ1 s τ : q_S), (0 ≤ σ 0 28 ∧ σ 0 28 ≤ 120) → σ 0 28 ≤ n + p → (0 ≤ p ∧ p ≤ σ 0 28) → (0 ≤ c ∧ c + n ≤ 120) → pAll (tT (tx σ)) (σ 0 28) (n) (p) (rd) = -1 → (∀ c' : Int, c' ≠ 1 → σ1 c' = σ c') → IM σ1 → pE (pM (σ1 1)) τ → q_WP mX8_goesThrough shM 9 [some (.inr (.inr 0)), some (.inl 1), some (.inl c), some (.inl 1), o4, o5] [] (ovM σ1 (tm s p w rd)) (fun r σ' => (((doA (tT (tx σ)) (n) (p) (rd) (c) (τ)).2.1 = true ∧ 0 ≤ (doA (tT (tx σ)) (n) (p) (rd) (c) (τ)).1) ∨ ((doA (tT (tx σ)) (n) (p) (rd) (c) (τ)).2.1 = false ∧ (doA (tT (tx σ)) (n) (p) (rd) (c) (τ)).1 < 0)) ∧ r = some (.inl (doA (tT (tx σ)) (n) (p) (rd) (c) (τ)).1) ∧ ∃ σ2 s', σ' = ovM σ2 s' ∧ (∀ x : Int, s' 16 x = s 16 x) ∧ (∀ c' : Int, c' ≠ 1 → σ2 c' = σ c') ∧ pE (pM (σ2 1)) (doA (tT (tx σ)) (n) (p) (rd) (c) (τ)).2.2 ∧ KR (σ2 1)) := by
  have e1 := @tx_1 σ
  intro n
  induction n with
  | zero =>
    intro p w c rd o4 o5 σ1 s τ hl hn hp hc hX hb hI1 hE
    rw [pAll] at hX
    omega
  | succ n ih =>
    intro p w c rd o4 o5 σ1 s τ hl hn hp hc hX hb hI1 hE
    have et1 : tx σ1 = tx σ := tx_c1 hb
    have e281 : σ1 0 28 = σ 0 28 := by rw [hb 0 (by decide)]
    have hin := pStat_in (σ := tx σ) (pl := p) (rd := rd) ⟨by omega, by omega⟩
    refine q_iload_n (n := 10) dX8_goesThrough_9 rfl rfl ?_
    refine q_if_eq (n := 13) (t := 121) dX8_goesThrough_10 rfl (by decide) (fun h10 => ?_) (fun h10 => ?_)
    · exact absurd h10 (by decide)
    · skip
      refine q_aload_n (n := 14) dX8_goesThrough_13 rfl rfl ?_
      refine q_getIE (p) (kI := 29) (n := 17) (by decide) dX8_goesThrough_14 rfl fX8_321 mi0 rfl rfl om_tp ?_
      refine q_istore (n := 19) dX8_goesThrough_17 rfl (Nat.le_of_ble_eq_true rfl) (q_s1_s (q_s1_s (q_s1_s (q_s1_1 rfl)))) ?_
      refine q_aload_n (n := 20) dX8_goesThrough_19 rfl rfl ?_
      refine q_v0 (n := 23) dX8_goesThrough_20 rfl (zX8_statement σ1 s _ _ _ hI1 ⟨by omega, by omega⟩) vX8_statement lX8_353 rfl rfl mi0 rfl (fun v20 σ20 h20 => ?_)
      rw [et1] at h20
      rcases h20 with ⟨q, e20, ⟨v', rfl⟩, rd', rfl⟩ | ⟨rd', q, e20, rfl, rfl⟩
      · exfalso
        rw [pAll, e20] at hX
        have hq := hin.1 q e20
        have hX : q = -1 := hX
        omega
      have hq := hin.2 rd' q e20
      · skip
        refine q_istore (n := 25) dX8_goesThrough_23 rfl (Nat.le_of_ble_eq_true rfl) (q_s1_s (q_s1_s (q_s1_s (q_s1_s (q_s1_1 rfl))))) ?_
        refine q_aload_n (n := 26) dX8_goesThrough_25 rfl rfl ?_
        refine q_getIE (0) (kI := 30) (n := 29) (by decide) dX8_goesThrough_26 rfl fX8_331 mi0 rfl rfl om_tw ?_
        refine q_if_eq (n := 32) (t := 41) dX8_goesThrough_29 rfl (by decide) (fun h29 => ?_) (fun h29 => ?_)
        · skip
          refine q_iload_n (n := 42) dX8_goesThrough_41 rfl rfl ?_
          refine q_if_eq (n := 45) (t := 61) dX8_goesThrough_42 rfl (by decide) (fun h42 => ?_) (fun h42 => ?_)
          · exact absurd h42 (by decide)
          · skip
            refine q_aload_n (n := 46) dX8_goesThrough_45 rfl rfl ?_
            refine q_iload (n := 48) dX8_goesThrough_46 rfl rfl ?_
            refine q_v1 (n := 51) dX8_goesThrough_48 rfl (zX8_isDone _ σ1 s _ _ hI1 (pStat_c e20) (pStat_f e20)) vX8_isDone lX8_356 rfl rfl mi0 rfl (fun v48 σ48 h48 => ?_)
            rcases h48.symm with ⟨d48, rfl, σ2, s3, rfl, h16, hb2, hp2, hk2⟩ | ⟨d48, rfl, s3, rfl, h16⟩
            any_goals have hcg := doP_pE (c := (tT (tx σ)) p) (rd := rd') hI1.1 hE
            · skip
              refine q_if_ne (n := 54) (t := 61) dX8_goesThrough_51 rfl (by decide) (fun h51 => ?_) (fun h51 => ?_)
              · skip
                have hI2 : IM σ2 := IM_c1 hI1 (IPs_pE (IPs_doP hI1.1) hp2) hk2 hb2
                have hb3 : ∀ c' : Int, c' ≠ 1 → σ2 c' = σ c' := fun c' h => (hb2 c' h).trans (hb c' h)
                have et2 : tx σ2 = tx σ := tx_c1 hb3
                have e282 : σ2 0 28 = σ 0 28 := by rw [hb3 0 (by decide)]
                refine q_iinc (n := 64) dX8_goesThrough_61 rfl (Nat.le_of_ble_eq_true rfl) rfl (q_nwid ⟨by omega, by omega⟩) (q_s1_s (q_s1_1 rfl)) ?_
                refine q_aload_n (n := 65) dX8_goesThrough_64 rfl rfl ?_
                refine q_getIE (q) (kI := 29) (n := 68) (by decide) dX8_goesThrough_65 rfl fX8_321 mi0 rfl rfl om_tp ?_
                refine q_aload_n (n := 69) dX8_goesThrough_68 rfl rfl ?_
                refine q_getIE (σ 0 28) (kI := 28) (n := 72) (by decide) dX8_goesThrough_69 rfl fX8_201 mi0 rfl rfl ((om_n rfl).trans e282) ?_
                refine q_icmp_ge (n := 75) (t := 79) dX8_goesThrough_72 rfl (by decide) (fun h72 => ?_) (fun h72 => ?_)
                · skip
                  refine q_iconst (n := 80) dX8_goesThrough_79 rfl (k := ?_)
                  refine q_istore_n (n := 81) dX8_goesThrough_80 rfl (Nat.le_of_ble_eq_true rfl) (q_s1_s (q_s1_s (q_s1_1 rfl))) ?_
                  refine q_aload_n (n := 82) dX8_goesThrough_81 rfl rfl ?_
                  refine q_iload_n (n := 83) dX8_goesThrough_82 rfl rfl ?_
                  refine q_if_eq (n := 86) (t := 91) dX8_goesThrough_83 rfl (by decide) (fun h83 => ?_) (fun h83 => ?_)
                  · skip
                    refine q_aload_n (n := 92) dX8_goesThrough_91 rfl rfl ?_
                    refine q_aload_n (n := 93) dX8_goesThrough_92 rfl rfl ?_
                    refine q_getIE (q) (kI := 29) (n := 96) (by decide) dX8_goesThrough_93 rfl fX8_321 mi0 rfl rfl om_tp ?_
                    refine q_v1D (n := 99) dX8_goesThrough_96 rfl (zX8_byteAt _ σ2 _ hI2 (by omega)) vX8_byteAt lX8_324 rfl rfl mi0 rfl ?_
                    rw [et2]
                    refine q_v1W (n := 102) dX8_goesThrough_99 rfl (zX8_takes0 (tT (tx σ) q) σ2 s3 _ _ hI2 ⟨by omega, by omega⟩) vX8_takes lX8_341 rfl rfl mi0 rfl (fun σ99 h99 => ?_)
                    rw [et2] at h99
                    obtain ⟨f99, rfl⟩ | ⟨f99, rfl⟩ := h99
                    · skip
                      refine q_aload_n (n := 103) dX8_goesThrough_102 rfl rfl ?_
                      refine q_getIE (0) (kI := 30) (n := 106) (by decide) dX8_goesThrough_103 rfl fX8_331 mi0 rfl rfl om_tw ?_
                      refine q_if_eq (n := 109) (t := 118) dX8_goesThrough_106 rfl (by decide) (fun h106 => ?_) (fun h106 => ?_)
                      · skip
                        refine q_go (t := 9) dX8_goesThrough_118 (by decide) ?_
                        first
                          | (have eX : pAll (tT (tx σ)) (σ 0 28) (n + 1) (p) (rd) = pAll (tT (tx σ)) (σ 0 28) (n) (q + 1) (rd') := by
                               rw [pAll, e20]
                               dsimp only
                               rw [if_neg (by omega), if_pos f99]
                             have eD : (doA (tT (tx σ)) (n + 1) (p) (rd) (c) (τ)) = (doA (tT (tx σ)) (n) (q + 1) (rd') (c + 1) ((doP ((tT (tx σ)) p) rd' τ).2)) := by
                               rw [doA, e20]
                               dsimp only
                               rw [if_neg (by rw [← hcg.1]; omega), if_pos f99]
                             rw [eX] at hX
                             rw [eD]
                             refine (ih (q + 1) 0 (c + 1) rd' _ _ σ2 s3 _ hl (by omega) ⟨by omega, by omega⟩ ⟨by omega, by omega⟩ hX hb3 hI2 (pE_t hp2 hcg.2)).imp ?_
                             rintro r σ' ⟨h1, h2, σ3, s4, h3, h4, h5⟩
                             exact ⟨h1, h2, σ3, s4, h3, fun x => (h4 x).trans (h16 x), h5⟩)
                          | (have hz : (tT (tx σ)) q = 0 := by
                               rw [tx_T, if_neg (by omega)]
                             have eD : (doA (tT (tx σ)) (n + 1) (p) (rd) (c) (τ)) = (c + 1, true, (doP ((tT (tx σ)) p) rd' τ).2) := by
                               rw [doA, e20]
                               dsimp only
                               rw [if_neg (by rw [← hcg.1]; omega), if_neg (by omega)]
                             rw [eD]
                             refine (lpX8_g9 _ _ _ _ _).imp ?_
                             rintro r σ' ⟨h1, h2⟩
                             exact ⟨Or.inl ⟨rfl, by show 0 ≤ c + 1; omega⟩, h1, σ2, _, h2, fun x => (tm_o (by omega)).trans (h16 x), hb3, pE_t hp2 hcg.2, hk2⟩)
                      · exact absurd h106 (by decide)
                    · skip
                      refine q_aload_n (n := 103) dX8_goesThrough_102 rfl rfl ?_
                      refine q_getIE (1) (kI := 30) (n := 106) (by decide) dX8_goesThrough_103 rfl fX8_331 mi0 rfl rfl om_tw ?_
                      refine q_if_eq (n := 109) (t := 118) dX8_goesThrough_106 rfl (by decide) (fun h106 => ?_) (fun h106 => ?_)
                      · exact absurd h106 (by decide)
                      · skip
                        refine q_sipush (n := 112) dX8_goesThrough_109 rfl (k := ?_)
                        refine q_aload_n (n := 113) dX8_goesThrough_112 rfl rfl ?_
                        refine q_getIE (q) (kI := 29) (n := 116) (by decide) dX8_goesThrough_113 rfl fX8_321 mi0 rfl rfl om_tp ?_
                        refine q_isubS (n := 117) dX8_goesThrough_116 rfl ⟨by omega, by omega⟩ ?_
                        refine q_iret dX8_goesThrough_117 rfl (fun _ => rfl) ?_
                        first
                          | exact absurd rfl f99
                          | (exfalso
                             rw [pAll, e20] at hX
                             dsimp only at hX
                             rw [if_neg (by omega), if_neg f99] at hX
                             omega)
                  · exact absurd h83 (by decide)
                · skip
                  refine q_iconst (n := 76) dX8_goesThrough_75 rfl (k := ?_)
                  refine q_go (t := 80) dX8_goesThrough_76 (by decide) ?_
                  refine q_istore_n (n := 81) dX8_goesThrough_80 rfl (Nat.le_of_ble_eq_true rfl) (q_s1_s (q_s1_s (q_s1_1 rfl))) ?_
                  refine q_aload_n (n := 82) dX8_goesThrough_81 rfl rfl ?_
                  refine q_iload_n (n := 83) dX8_goesThrough_82 rfl rfl ?_
                  refine q_if_eq (n := 86) (t := 91) dX8_goesThrough_83 rfl (by decide) (fun h83 => ?_) (fun h83 => ?_)
                  · exact absurd h83 (by decide)
                  · skip
                    refine q_bipush (n := 88) dX8_goesThrough_86 rfl (k := ?_)
                    refine q_go (t := 99) dX8_goesThrough_88 (by decide) ?_
                    refine q_v1W (n := 102) dX8_goesThrough_99 rfl (zX8_takes0 59 σ2 s3 _ _ hI2 ⟨by omega, by omega⟩) vX8_takes lX8_341 rfl rfl mi0 rfl (fun σ99 h99 => ?_)
                    rw [et2] at h99
                    obtain ⟨f99, rfl⟩ | ⟨f99, rfl⟩ := h99
                    · skip
                      refine q_aload_n (n := 103) dX8_goesThrough_102 rfl rfl ?_
                      refine q_getIE (0) (kI := 30) (n := 106) (by decide) dX8_goesThrough_103 rfl fX8_331 mi0 rfl rfl om_tw ?_
                      refine q_if_eq (n := 109) (t := 118) dX8_goesThrough_106 rfl (by decide) (fun h106 => ?_) (fun h106 => ?_)
                      · skip
                        refine q_go (t := 9) dX8_goesThrough_118 (by decide) ?_
                        first
                          | (have eX : pAll (tT (tx σ)) (σ 0 28) (n + 1) (p) (rd) = pAll (tT (tx σ)) (σ 0 28) (n) (q + 1) (rd') := by
                               rw [pAll, e20]
                               dsimp only
                               rw [if_neg (by omega), if_pos f99]
                             have eD : (doA (tT (tx σ)) (n + 1) (p) (rd) (c) (τ)) = (doA (tT (tx σ)) (n) (q + 1) (rd') (c + 1) ((doP ((tT (tx σ)) p) rd' τ).2)) := by
                               rw [doA, e20]
                               dsimp only
                               rw [if_neg (by rw [← hcg.1]; omega), if_pos f99]
                             rw [eX] at hX
                             rw [eD]
                             refine (ih (q + 1) 0 (c + 1) rd' _ _ σ2 s3 _ hl (by omega) ⟨by omega, by omega⟩ ⟨by omega, by omega⟩ hX hb3 hI2 (pE_t hp2 hcg.2)).imp ?_
                             rintro r σ' ⟨h1, h2, σ3, s4, h3, h4, h5⟩
                             exact ⟨h1, h2, σ3, s4, h3, fun x => (h4 x).trans (h16 x), h5⟩)
                          | (have hz : (tT (tx σ)) q = 0 := by
                               rw [tx_T, if_neg (by omega)]
                             have eD : (doA (tT (tx σ)) (n + 1) (p) (rd) (c) (τ)) = (c + 1, true, (doP ((tT (tx σ)) p) rd' τ).2) := by
                               rw [doA, e20]
                               dsimp only
                               rw [if_neg (by rw [← hcg.1]; omega), if_neg (by omega)]
                             rw [eD]
                             refine (lpX8_g9 _ _ _ _ _).imp ?_
                             rintro r σ' ⟨h1, h2⟩
                             exact ⟨Or.inl ⟨rfl, by show 0 ≤ c + 1; omega⟩, h1, σ2, _, h2, fun x => (tm_o (by omega)).trans (h16 x), hb3, pE_t hp2 hcg.2, hk2⟩)
                      · exact absurd h106 (by decide)
                    · skip
                      refine q_aload_n (n := 103) dX8_goesThrough_102 rfl rfl ?_
                      refine q_getIE (1) (kI := 30) (n := 106) (by decide) dX8_goesThrough_103 rfl fX8_331 mi0 rfl rfl om_tw ?_
                      refine q_if_eq (n := 109) (t := 118) dX8_goesThrough_106 rfl (by decide) (fun h106 => ?_) (fun h106 => ?_)
                      · exact absurd h106 (by decide)
                      · skip
                        refine q_sipush (n := 112) dX8_goesThrough_109 rfl (k := ?_)
                        refine q_aload_n (n := 113) dX8_goesThrough_112 rfl rfl ?_
                        refine q_getIE (q) (kI := 29) (n := 116) (by decide) dX8_goesThrough_113 rfl fX8_321 mi0 rfl rfl om_tp ?_
                        refine q_isubS (n := 117) dX8_goesThrough_116 rfl ⟨by omega, by omega⟩ ?_
                        refine q_iret dX8_goesThrough_117 rfl (fun _ => rfl) ?_
                        first
                          | exact absurd rfl f99
                          | (exfalso
                             rw [pAll, e20] at hX
                             dsimp only at hX
                             rw [if_neg (by omega), if_neg f99] at hX
                             omega)
              · exact absurd h51 (by decide)
            · skip
              refine q_if_ne (n := 54) (t := 61) dX8_goesThrough_51 rfl (by decide) (fun h51 => ?_) (fun h51 => ?_)
              · exact absurd h51 (by decide)
              · skip
                refine q_sipush (n := 57) dX8_goesThrough_54 rfl (k := ?_)
                refine q_iload (n := 59) dX8_goesThrough_57 rfl rfl ?_
                refine q_isubS (n := 60) dX8_goesThrough_59 rfl ⟨by omega, by omega⟩ ?_
                refine q_iret dX8_goesThrough_60 rfl (fun _ => rfl) ?_
                have eD : (doA (tT (tx σ)) (n + 1) (p) (rd) (c) (τ)) = (-2000 - p, false, (doP ((tT (tx σ)) p) rd' τ).2) := by
                  rw [doA, e20]
                  dsimp only
                  rw [if_pos (by rw [← hcg.1]; exact d48)]
                rw [eD]
                refine ⟨Or.inr ⟨rfl, by show -2000 - p < 0; omega⟩, rfl, σ1, _, rfl, fun x => (tm_o (by omega)).trans (h16 x), hb, ?_, hI1.2.1⟩
                show pE (pM (σ1 1)) (doP ((tT (tx σ)) p) rd' τ).2
                rw [doP_neg (IPs_pE hI1.1 (pE_s hE)) (by rw [← hcg.1]; exact d48)]
                exact hE
        · exact absurd h29 (by decide)
set_option maxRecDepth 100000 in
theorem zX8_goesThrough1 (σ s : q_S) (hI : IM σ) (hX : ¬ 0 ≤ pA (tT (tx σ)) (σ 0 28)) : q_Ct mX8_goesThrough shM [.inr (.inr 0), .inl 1] (ovM σ s) (fun r σ' => (((dA (tT (tx σ)) (pM (σ 1))).2.1 = true ∧ 0 ≤ (dA (tT (tx σ)) (pM (σ 1))).1) ∨ ((dA (tT (tx σ)) (pM (σ 1))).2.1 = false ∧ (dA (tT (tx σ)) (pM (σ 1))).1 < 0)) ∧ r = some (.inl (dA (tT (tx σ)) (pM (σ 1))).1) ∧ ∃ σ2 s', σ' = ovM σ2 s' ∧ (∀ x : Int, s' 16 x = s 16 x) ∧ (∀ c' : Int, c' ≠ 1 → σ2 c' = σ c') ∧ pE (pM (σ2 1)) (dA (tT (tx σ)) (pM (σ 1))).2.2 ∧ KR (σ2 1)) := by
  refine q_ct 4 (by decide) rfl rfl ?_
  show q_WP mX8_goesThrough shM 0 [some (.inr (.inr 0)), some (.inl 1), none, none, none, none] [] (ovM σ s) _
  have hl := hI.2.2.2.2.1
  have hX2 : pA (tT (tx σ)) (σ 0 28) = -1 := (pAll_ge (σ := tx σ) 120 0 z0 ⟨by decide, by have := @tx_1 σ; omega⟩).resolve_right hX
  have es := @tm_id s
  rw [es]
  refine q_aload_n (n := 1) dX8_goesThrough_0 rfl rfl ?_
  refine q_iconst (n := 2) dX8_goesThrough_1 rfl (k := ?_)
  refine q_putI (kI := 29) (n := 5) dX8_goesThrough_2 rfl pX8_321 mi0 rfl rfl ?_
  rw [om_sp]
  refine q_iconst (n := 6) dX8_goesThrough_5 rfl (k := ?_)
  refine q_istore_n (n := 7) dX8_goesThrough_6 rfl (Nat.le_of_ble_eq_true rfl) (q_s1_s (q_s1_1 rfl)) ?_
  refine q_iconst (n := 8) dX8_goesThrough_7 rfl (k := ?_)
  refine q_istore_n (n := 9) dX8_goesThrough_8 rfl (Nat.le_of_ble_eq_true rfl) (q_s1_s (q_s1_s (q_s1_1 rfl))) ?_
  have e : pAll (tT (tx σ)) (σ 0 28) (120) (0) (s 15) = pA (tT (tx σ)) (σ 0 28) := pAll_x 120 0 _ _
  have eD : (doA (tT (tx σ)) (120) (0) (s 15) (0) (pM (σ 1))) = dA (tT (tx σ)) (pM (σ 1)) := doA_x 120 0 _ _ 0 _
  have h := lpX8_gt σ 120 0 (s 0 30) 0 (s 15) none none σ s (pM (σ 1)) hl (by omega) ⟨by omega, by omega⟩ ⟨by decide, by decide⟩ (e.trans hX2) (fun _ _ => rfl) hI pE_r
  rw [eD] at h
  rw [← es]
  exact h
