set_option maxRecDepth 100000 in
theorem lpX8_g9 (ω : q_S) (b c : Int) (o4 o5 : Option q_V) : q_WP mX8_goesThrough shM 9 [some (.inr (.inr 0)), some (.inl b), some (.inl c), some (.inl 0), o4, o5] [] ω (fun r σ' => r = some (.inl c) ∧ σ' = ω) := by
  skip
  refine q_iload_n (n := 10) dX8_goesThrough_9 rfl rfl ?_
  refine q_if_eq (n := 13) (t := 121) dX8_goesThrough_10 rfl (by decide) (fun h10 => ?_) (fun h10 => ?_)
  · skip
    refine q_iload_n (n := 122) dX8_goesThrough_121 rfl rfl ?_
    refine q_iret dX8_goesThrough_122 rfl (fun _ => rfl) ?_
    exact ⟨rfl, rfl⟩
  · exact absurd h10 (by decide)
set_option maxHeartbeats 1000000 in
set_option maxRecDepth 100000 in
theorem lpX8_gf (σ s : q_S) (hI : IM σ) : ∀ (n : Nat) (p w c : Int) (rd : Int → Int) (o4 o5 : Option q_V), σ 0 28 ≤ n + p → (0 ≤ p ∧ p ≤ σ 0 28) → (0 ≤ c ∧ c + n ≤ 120) → q_WP mX8_goesThrough shM 9 [some (.inr (.inr 0)), some (.inl 0), some (.inl c), some (.inl 1), o4, o5] [] (ovM σ (tm s p w rd)) (fun r σ' => (0 ≤ pAll (tT (tx σ)) (σ 0 28) (n) (p) (rd) ∧ r = some (.inl (-1000 - pAll (tT (tx σ)) (σ 0 28) (n) (p) (rd))) ∧ ∃ s', σ' = ovM σ s') ∨ (pAll (tT (tx σ)) (σ 0 28) (n) (p) (rd) = -1 ∧ ∃ c', 0 ≤ c' ∧ r = some (.inl c') ∧ ∃ s', σ' = ovM σ s')) := by
  have hl := hI.2.2.2.2.1
  have e1 := @tx_1 σ
  intro n
  induction n with
  | zero =>
    intro p w c rd o4 o5 hn hp hc
    have hz : (tT (tx σ)) p = 0 := by
      rw [tx_T, if_neg (by omega)]
    have es := pStat_0 (rd := rd) hz
    rw [pAll]
    refine q_iload_n (n := 10) dX8_goesThrough_9 rfl rfl ?_
    refine q_if_eq (n := 13) (t := 121) dX8_goesThrough_10 rfl (by decide) (fun h10 => ?_) (fun h10 => ?_)
    · exact absurd h10 (by decide)
    · skip
      refine q_aload_n (n := 14) dX8_goesThrough_13 rfl rfl ?_
      refine q_getIE (p) (kI := 29) (n := 17) (by decide) dX8_goesThrough_14 rfl fX8_321 mi0 rfl rfl om_tp ?_
      refine q_istore (n := 19) dX8_goesThrough_17 rfl (Nat.le_of_ble_eq_true rfl) (q_s1_s (q_s1_s (q_s1_s (q_s1_1 rfl)))) ?_
      refine q_aload_n (n := 20) dX8_goesThrough_19 rfl rfl ?_
      refine q_v0 (n := 23) dX8_goesThrough_20 rfl (zX8_statement σ s _ _ _ hI ⟨by omega, by omega⟩) vX8_statement lX8_353 rfl rfl mi0 rfl (fun v20 σ20 h20 => ?_)
      rcases h20 with ⟨q, e20, ⟨v', rfl⟩, rd', rfl⟩ | ⟨rd', q, e20, rfl, rfl⟩
      rotate_left
      · rw [es] at e20
        cases e20
      obtain rfl : p = q := by
        rw [es] at e20
        cases e20
        rfl
      · skip
        refine q_istore (n := 25) dX8_goesThrough_23 rfl (Nat.le_of_ble_eq_true rfl) (q_s1_s (q_s1_s (q_s1_s (q_s1_s (q_s1_1 rfl))))) ?_
        refine q_aload_n (n := 26) dX8_goesThrough_25 rfl rfl ?_
        refine q_getIE (1) (kI := 30) (n := 29) (by decide) dX8_goesThrough_26 rfl fX8_331 mi0 rfl rfl om_tw ?_
        refine q_if_eq (n := 32) (t := 41) dX8_goesThrough_29 rfl (by decide) (fun h29 => ?_) (fun h29 => ?_)
        · exact absurd h29 (by decide)
        · skip
          refine q_sipush (n := 35) dX8_goesThrough_32 rfl (k := ?_)
          refine q_aload_n (n := 36) dX8_goesThrough_35 rfl rfl ?_
          refine q_getIE (p) (kI := 29) (n := 39) (by decide) dX8_goesThrough_36 rfl fX8_321 mi0 rfl rfl om_tp ?_
          refine q_isubS (n := 40) dX8_goesThrough_39 rfl ⟨by omega, by omega⟩ ?_
          refine q_iret dX8_goesThrough_40 rfl (fun _ => rfl) ?_
          exact Or.inl ⟨hp.1, rfl, _, rfl⟩
  | succ n ih =>
    intro p w c rd o4 o5 hn hp hc
    have hin := pStat_in (σ := tx σ) (pl := p) (rd := rd) ⟨by omega, by omega⟩
    refine q_iload_n (n := 10) dX8_goesThrough_9 rfl rfl ?_
    refine q_if_eq (n := 13) (t := 121) dX8_goesThrough_10 rfl (by decide) (fun h10 => ?_) (fun h10 => ?_)
    · exact absurd h10 (by decide)
    · skip
      refine q_aload_n (n := 14) dX8_goesThrough_13 rfl rfl ?_
      refine q_getIE (p) (kI := 29) (n := 17) (by decide) dX8_goesThrough_14 rfl fX8_321 mi0 rfl rfl om_tp ?_
      refine q_istore (n := 19) dX8_goesThrough_17 rfl (Nat.le_of_ble_eq_true rfl) (q_s1_s (q_s1_s (q_s1_s (q_s1_1 rfl)))) ?_
      refine q_aload_n (n := 20) dX8_goesThrough_19 rfl rfl ?_
      refine q_v0 (n := 23) dX8_goesThrough_20 rfl (zX8_statement σ s _ _ _ hI ⟨by omega, by omega⟩) vX8_statement lX8_353 rfl rfl mi0 rfl (fun v20 σ20 h20 => ?_)
      rcases h20.symm with ⟨rd', q, e20, rfl, rfl⟩ | ⟨q, e20, ⟨v', rfl⟩, rd', rfl⟩
      · skip
        refine q_istore (n := 25) dX8_goesThrough_23 rfl (Nat.le_of_ble_eq_true rfl) (q_s1_s (q_s1_s (q_s1_s (q_s1_s (q_s1_1 rfl))))) ?_
        first
          | have hq := hin.1 q e20
          | have hq := hin.2 rd' q e20
        refine q_aload_n (n := 26) dX8_goesThrough_25 rfl rfl ?_
        refine q_getIE (0) (kI := 30) (n := 29) (by decide) dX8_goesThrough_26 rfl fX8_331 mi0 rfl rfl om_tw ?_
        refine q_if_eq (n := 32) (t := 41) dX8_goesThrough_29 rfl (by decide) (fun h29 => ?_) (fun h29 => ?_)
        · skip
          refine q_iload_n (n := 42) dX8_goesThrough_41 rfl rfl ?_
          refine q_if_eq (n := 45) (t := 61) dX8_goesThrough_42 rfl (by decide) (fun h42 => ?_) (fun h42 => ?_)
          · skip
            refine q_iinc (n := 64) dX8_goesThrough_61 rfl (Nat.le_of_ble_eq_true rfl) rfl (q_nwid ⟨by omega, by omega⟩) (q_s1_s (q_s1_1 rfl)) ?_
            refine q_aload_n (n := 65) dX8_goesThrough_64 rfl rfl ?_
            refine q_getIE (q) (kI := 29) (n := 68) (by decide) dX8_goesThrough_65 rfl fX8_321 mi0 rfl rfl om_tp ?_
            refine q_aload_n (n := 69) dX8_goesThrough_68 rfl rfl ?_
            refine q_getIF (σ 0) (kI := 28) (n := 72) (by decide) dX8_goesThrough_69 rfl fX8_201 mi0 rfl rfl rfl ?_
            refine q_icmp_ge (n := 75) (t := 79) dX8_goesThrough_72 rfl (by decide) (fun h72 => ?_) (fun h72 => ?_)
            · skip
              refine q_iconst (n := 80) dX8_goesThrough_79 rfl (k := ?_)
              refine q_istore_n (n := 81) dX8_goesThrough_80 rfl (Nat.le_of_ble_eq_true rfl) (q_s1_s (q_s1_s (q_s1_1 rfl))) ?_
              refine q_aload_n (n := 82) dX8_goesThrough_81 rfl rfl ?_
              refine q_iload_n (n := 83) dX8_goesThrough_82 rfl rfl ?_
              refine q_if_eq (n := 86) (t := 91) dX8_goesThrough_83 rfl (by decide) (fun h83 => ?_) (fun h83 => ?_)
              · skip
                refine q_aload_n (n := 92) dX8_goesThrough_91 rfl rfl ?_
                refine q_aload_n (n := 93) dX8_goesThrough_92 rfl rfl ?_
                refine q_getIE (q) (kI := 29) (n := 96) (by decide) dX8_goesThrough_93 rfl fX8_321 mi0 rfl rfl om_tp ?_
                refine q_v1D (n := 99) dX8_goesThrough_96 rfl (zX8_byteAt _ σ _ hI (by omega)) vX8_byteAt lX8_324 rfl rfl mi0 rfl ?_
                refine q_v1W (n := 102) dX8_goesThrough_99 rfl (zX8_takes0 (tT (tx σ) q) σ s _ _ hI ⟨by omega, by omega⟩) vX8_takes lX8_341 rfl rfl mi0 rfl (fun σ99 h99 => ?_)
                obtain ⟨f99, rfl⟩ | ⟨f99, rfl⟩ := h99
                · skip
                  refine q_aload_n (n := 103) dX8_goesThrough_102 rfl rfl ?_
                  refine q_getIE (0) (kI := 30) (n := 106) (by decide) dX8_goesThrough_103 rfl fX8_331 mi0 rfl rfl om_tw ?_
                  refine q_if_eq (n := 109) (t := 118) dX8_goesThrough_106 rfl (by decide) (fun h106 => ?_) (fun h106 => ?_)
                  · skip
                    refine q_go (t := 9) dX8_goesThrough_118 (by decide) ?_
                    first
                      | (have eX : pAll (tT (tx σ)) (σ 0 28) (n + 1) (p) (rd) = pAll (tT (tx σ)) (σ 0 28) (n) (q + 1) (rd') := by
                           rw [pAll, e20]
                           dsimp only
                           rw [if_neg (by omega), if_pos f99]
                         rw [eX]
                         exact ih (q + 1) 0 (c + 1) rd' _ _ (by omega) ⟨by omega, by omega⟩ ⟨by omega, by omega⟩)
                      | (have eX : pAll (tT (tx σ)) (σ 0 28) (n + 1) (p) (rd) = -1 := by
                           rw [pAll, e20]
                           dsimp only
                           rw [if_pos (by omega)]
                         rw [eX]
                         exact (lpX8_g9 _ _ _ _ _).imp (fun r σ2 h => Or.inr ⟨rfl, c + 1, by omega, h.1, _, h.2⟩))
                  · exact absurd h106 (by decide)
                · skip
                  refine q_aload_n (n := 103) dX8_goesThrough_102 rfl rfl ?_
                  refine q_getIE (1) (kI := 30) (n := 106) (by decide) dX8_goesThrough_103 rfl fX8_331 mi0 rfl rfl om_tw ?_
                  refine q_if_eq (n := 109) (t := 118) dX8_goesThrough_106 rfl (by decide) (fun h106 => ?_) (fun h106 => ?_)
                  · exact absurd h106 (by decide)
                  · skip
                    refine q_sipush (n := 112) dX8_goesThrough_109 rfl (k := ?_)
                    refine q_aload_n (n := 113) dX8_goesThrough_112 rfl rfl ?_
                    refine q_getIE (q) (kI := 29) (n := 116) (by decide) dX8_goesThrough_113 rfl fX8_321 mi0 rfl rfl om_tp ?_
                    refine q_isubS (n := 117) dX8_goesThrough_116 rfl ⟨by omega, by omega⟩ ?_
                    refine q_iret dX8_goesThrough_117 rfl (fun _ => rfl) ?_
                    first
                      | exact absurd rfl f99
                      | (have eX : pAll (tT (tx σ)) (σ 0 28) (n + 1) (p) (rd) = q := by
                           rw [pAll, e20]
                         rw [eX]
                         exact Or.inl ⟨by omega, rfl, _, rfl⟩)
                      | (have eX : pAll (tT (tx σ)) (σ 0 28) (n + 1) (p) (rd) = q := by
                           rw [pAll, e20]
                           dsimp only
                           rw [if_neg (by omega), if_neg f99]
                         rw [eX]
                         exact Or.inl ⟨by omega, rfl, _, rfl⟩)
              · exact absurd h83 (by decide)
            · skip
              refine q_iconst (n := 76) dX8_goesThrough_75 rfl (k := ?_)
              refine q_go (t := 80) dX8_goesThrough_76 (by decide) ?_
              refine q_istore_n (n := 81) dX8_goesThrough_80 rfl (Nat.le_of_ble_eq_true rfl) (q_s1_s (q_s1_s (q_s1_1 rfl))) ?_
              refine q_aload_n (n := 82) dX8_goesThrough_81 rfl rfl ?_
              refine q_iload_n (n := 83) dX8_goesThrough_82 rfl rfl ?_
              refine q_if_eq (n := 86) (t := 91) dX8_goesThrough_83 rfl (by decide) (fun h83 => ?_) (fun h83 => ?_)
              · exact absurd h83 (by decide)
              · skip
                refine q_bipush (n := 88) dX8_goesThrough_86 rfl (k := ?_)
                refine q_go (t := 99) dX8_goesThrough_88 (by decide) ?_
                refine q_v1W (n := 102) dX8_goesThrough_99 rfl (zX8_takes0 59 σ s _ _ hI ⟨by omega, by omega⟩) vX8_takes lX8_341 rfl rfl mi0 rfl (fun σ99 h99 => ?_)
                obtain ⟨f99, rfl⟩ | ⟨f99, rfl⟩ := h99
                · skip
                  refine q_aload_n (n := 103) dX8_goesThrough_102 rfl rfl ?_
                  refine q_getIE (0) (kI := 30) (n := 106) (by decide) dX8_goesThrough_103 rfl fX8_331 mi0 rfl rfl om_tw ?_
                  refine q_if_eq (n := 109) (t := 118) dX8_goesThrough_106 rfl (by decide) (fun h106 => ?_) (fun h106 => ?_)
                  · skip
                    refine q_go (t := 9) dX8_goesThrough_118 (by decide) ?_
                    first
                      | (have eX : pAll (tT (tx σ)) (σ 0 28) (n + 1) (p) (rd) = pAll (tT (tx σ)) (σ 0 28) (n) (q + 1) (rd') := by
                           rw [pAll, e20]
                           dsimp only
                           rw [if_neg (by omega), if_pos f99]
                         rw [eX]
                         exact ih (q + 1) 0 (c + 1) rd' _ _ (by omega) ⟨by omega, by omega⟩ ⟨by omega, by omega⟩)
                      | (have eX : pAll (tT (tx σ)) (σ 0 28) (n + 1) (p) (rd) = -1 := by
                           rw [pAll, e20]
                           dsimp only
                           rw [if_pos (by omega)]
                         rw [eX]
                         exact (lpX8_g9 _ _ _ _ _).imp (fun r σ2 h => Or.inr ⟨rfl, c + 1, by omega, h.1, _, h.2⟩))
                  · exact absurd h106 (by decide)
                · skip
                  refine q_aload_n (n := 103) dX8_goesThrough_102 rfl rfl ?_
                  refine q_getIE (1) (kI := 30) (n := 106) (by decide) dX8_goesThrough_103 rfl fX8_331 mi0 rfl rfl om_tw ?_
                  refine q_if_eq (n := 109) (t := 118) dX8_goesThrough_106 rfl (by decide) (fun h106 => ?_) (fun h106 => ?_)
                  · exact absurd h106 (by decide)
                  · skip
                    refine q_sipush (n := 112) dX8_goesThrough_109 rfl (k := ?_)
                    refine q_aload_n (n := 113) dX8_goesThrough_112 rfl rfl ?_
                    refine q_getIE (q) (kI := 29) (n := 116) (by decide) dX8_goesThrough_113 rfl fX8_321 mi0 rfl rfl om_tp ?_
                    refine q_isubS (n := 117) dX8_goesThrough_116 rfl ⟨by omega, by omega⟩ ?_
                    refine q_iret dX8_goesThrough_117 rfl (fun _ => rfl) ?_
                    first
                      | exact absurd rfl f99
                      | (have eX : pAll (tT (tx σ)) (σ 0 28) (n + 1) (p) (rd) = q := by
                           rw [pAll, e20]
                         rw [eX]
                         exact Or.inl ⟨by omega, rfl, _, rfl⟩)
                      | (have eX : pAll (tT (tx σ)) (σ 0 28) (n + 1) (p) (rd) = q := by
                           rw [pAll, e20]
                           dsimp only
                           rw [if_neg (by omega), if_neg f99]
                         rw [eX]
                         exact Or.inl ⟨by omega, rfl, _, rfl⟩)
          · exact absurd h42 (by decide)
        · exact absurd h29 (by decide)
      · skip
        refine q_istore (n := 25) dX8_goesThrough_23 rfl (Nat.le_of_ble_eq_true rfl) (q_s1_s (q_s1_s (q_s1_s (q_s1_s (q_s1_1 rfl))))) ?_
        first
          | have hq := hin.1 q e20
          | have hq := hin.2 rd' q e20
        refine q_aload_n (n := 26) dX8_goesThrough_25 rfl rfl ?_
        refine q_getIE (1) (kI := 30) (n := 29) (by decide) dX8_goesThrough_26 rfl fX8_331 mi0 rfl rfl om_tw ?_
        refine q_if_eq (n := 32) (t := 41) dX8_goesThrough_29 rfl (by decide) (fun h29 => ?_) (fun h29 => ?_)
        · exact absurd h29 (by decide)
        · skip
          refine q_sipush (n := 35) dX8_goesThrough_32 rfl (k := ?_)
          refine q_aload_n (n := 36) dX8_goesThrough_35 rfl rfl ?_
          refine q_getIE (q) (kI := 29) (n := 39) (by decide) dX8_goesThrough_36 rfl fX8_321 mi0 rfl rfl om_tp ?_
          refine q_isubS (n := 40) dX8_goesThrough_39 rfl ⟨by omega, by omega⟩ ?_
          refine q_iret dX8_goesThrough_40 rfl (fun _ => rfl) ?_
          first
            | exact absurd rfl f99
            | (have eX : pAll (tT (tx σ)) (σ 0 28) (n + 1) (p) (rd) = q := by
                 rw [pAll, e20]
               rw [eX]
               exact Or.inl ⟨by omega, rfl, _, rfl⟩)
            | (have eX : pAll (tT (tx σ)) (σ 0 28) (n + 1) (p) (rd) = q := by
                 rw [pAll, e20]
                 dsimp only
                 rw [if_neg (by omega), if_neg f99]
               rw [eX]
               exact Or.inl ⟨by omega, rfl, _, rfl⟩)
set_option maxRecDepth 100000 in
theorem zX8_goesThrough0 (σ s : q_S) (hI : IM σ) : q_Ct mX8_goesThrough shM [.inr (.inr 0), .inl 0] (ovM σ s) (fun r σ' => (0 ≤ pA (tT (tx σ)) (σ 0 28) ∧ r = some (.inl (-1000 - pA (tT (tx σ)) (σ 0 28))) ∧ ∃ s', σ' = ovM σ s') ∨ (pA (tT (tx σ)) (σ 0 28) = -1 ∧ ∃ c', 0 ≤ c' ∧ r = some (.inl c') ∧ ∃ s', σ' = ovM σ s')) := by
  refine q_ct 4 (by decide) rfl rfl ?_
  show q_WP mX8_goesThrough shM 0 [some (.inr (.inr 0)), some (.inl 0), none, none, none, none] [] (ovM σ s) _
  have hl := hI.2.2.2.2.1
  rw [@tm_id s]
  refine q_aload_n (n := 1) dX8_goesThrough_0 rfl rfl ?_
  refine q_iconst (n := 2) dX8_goesThrough_1 rfl (k := ?_)
  refine q_putI (kI := 29) (n := 5) dX8_goesThrough_2 rfl pX8_321 mi0 rfl rfl ?_
  rw [om_sp]
  refine q_iconst (n := 6) dX8_goesThrough_5 rfl (k := ?_)
  refine q_istore_n (n := 7) dX8_goesThrough_6 rfl (Nat.le_of_ble_eq_true rfl) (q_s1_s (q_s1_1 rfl)) ?_
  refine q_iconst (n := 8) dX8_goesThrough_7 rfl (k := ?_)
  refine q_istore_n (n := 9) dX8_goesThrough_8 rfl (Nat.le_of_ble_eq_true rfl) (q_s1_s (q_s1_s (q_s1_1 rfl))) ?_
  have h := lpX8_gf σ s hI 120 0 (s 0 30) 0 (s 15) none none (by omega) ⟨by omega, by omega⟩ ⟨by decide, by decide⟩
  have e : pAll (tT (tx σ)) (σ 0 28) (120) (0) (s 15) = pA (tT (tx σ)) (σ 0 28) := pAll_x 120 0 _ _
  rw [e] at h
  exact h
