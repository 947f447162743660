theorem st_q {X : Int ⊕ ((Int → Int) × Int)} {σ s : q_S} {c : Int} {r : Option q_V} {σ' : q_S} (hr : r = some (.inl c)) (h : stR X σ s σ') : ∃ z, r = some z ∧ ((∃ q, X = .inl q ∧ (∃ v', z = .inl v') ∧ ∃ rd', σ' = ovM σ (tm s q 1 rd')) ∨ (∃ rd' q, X = .inr (rd', q) ∧ z = .inl c ∧ σ' = ovM σ (tm s q 0 rd'))) := by
  rcases stR_c h with ⟨q, e, rd', h2⟩ | ⟨rd', q, e, h2⟩
  · exact ⟨_, hr, Or.inl ⟨q, e, ⟨c, rfl⟩, rd', h2⟩⟩
  · exact ⟨_, hr, Or.inr ⟨rd', q, e, rfl, h2⟩⟩
set_option maxRecDepth 100000 in
theorem zX8_statement (σ s : q_S) (p w : Int) (rd : Int → Int) (hI : IM σ) (hp : 0 ≤ p ∧ p ≤ σ 0 28) : q_Ct mX8_statement shM [.inr (.inr 0)] (ovM σ (tm s p w rd)) (fun r σ' => ∃ z, r = some z ∧ ((∃ q, pStat (tT (tx σ)) p rd = .inl q ∧ (∃ v', z = .inl v') ∧ ∃ rd', σ' = (ovM σ (tm s q 1 rd'))) ∨ (∃ rd' q, pStat (tT (tx σ)) p rd = .inr (rd', q) ∧ z = .inl ((tT (tx σ)) p) ∧ σ' = (ovM σ (tm s q 0 rd'))))) := by
  refine q_ct 2 (by decide) rfl rfl ?_
  show q_WP mX8_statement shM 0 [some (.inr (.inr 0)), none, none] [] (ovM σ (tm s p w rd)) _
  have hl := hI.2.2.2.2.1
  have e1 := @tx_1 σ
  have hlt := @tT_lt (tx σ) p
  refine q_aload_n (n := 1) dX8_statement_0 rfl rfl ?_
  refine q_aload_n (n := 2) dX8_statement_1 rfl rfl ?_
  refine q_getIE (p) (kI := 29) (n := 5) (by decide) dX8_statement_2 rfl fX8_321 mi0 rfl rfl om_tp ?_
  refine q_v1D (n := 8) dX8_statement_5 rfl (zX8_byteAt _ σ _ hI (by omega)) vX8_byteAt lX8_324 rfl rfl mi0 rfl ?_
  refine q_istore_n (n := 9) dX8_statement_8 rfl (Nat.le_of_ble_eq_true rfl) (q_s1_1 rfl) ?_
  refine q_aload_n (n := 10) dX8_statement_9 rfl rfl ?_
  refine q_iload_n (n := 11) dX8_statement_10 rfl rfl ?_
  refine q_bipush (n := 13) dX8_statement_11 rfl (k := ?_)
  refine q_icmp_eq (n := 16) (t := 38) dX8_statement_13 rfl (by decide) (fun h13 => ?_) (fun h13 => ?_)
  · have hlt := hlt (by omega)
    refine q_iconst (n := 39) dX8_statement_38 rfl (k := ?_)
    refine q_putZ (kI := 30) (n := 42) dX8_statement_39 rfl pX8_331 mi0 rfl rfl ⟨by decide, by decide⟩ ?_
    rw [om_sw]
    refine q_aload_n (n := 43) dX8_statement_42 rfl rfl ?_
    refine q_getIE (0) (kI := 30) (n := 46) (by decide) dX8_statement_43 rfl fX8_331 mi0 rfl rfl om_tw ?_
    refine q_if_eq (n := 49) (t := 51) dX8_statement_46 rfl (by decide) (fun h46 => ?_) (fun h46 => ?_)
    · skip
      refine q_aload_n (n := 52) dX8_statement_51 rfl rfl ?_
      refine q_dup (n := 53) dX8_statement_52 rfl rfl ?_
      refine q_getIE (p) (kI := 29) (n := 56) (by decide) dX8_statement_53 rfl fX8_321 mi0 rfl rfl om_tp ?_
      refine q_iconst (n := 57) dX8_statement_56 rfl (k := ?_)
      refine q_iaddS (n := 58) dX8_statement_57 rfl ⟨by omega, by omega⟩ ?_
      refine q_putI (kI := 29) (n := 61) dX8_statement_58 rfl pX8_321 mi0 rfl rfl ?_
      rw [om_sp]
      refine q_iload_n (n := 62) dX8_statement_61 rfl rfl ?_
      refine q_bipush (n := 64) dX8_statement_62 rfl (k := ?_)
      refine q_icmp_ne (n := 67) (t := 80) dX8_statement_64 rfl (by decide) (fun h64 => ?_) (fun h64 => ?_)
      · exact absurd h13 h64
      · skip
        refine q_aload_n (n := 68) dX8_statement_67 rfl rfl ?_
        refine q_getR (n := 71) dX8_statement_68 rfl fX8_66 mi0 rfl ?_
        refine q_iconst (n := 72) dX8_statement_71 rfl (k := ?_)
        refine q_aload_n (n := 73) dX8_statement_72 rfl rfl ?_
        refine q_v0 (n := 76) dX8_statement_73 rfl (zX8_figure0 σ s _ _ hI ⟨by omega, by omega⟩) vX8_figure lX8_338 rfl rfl mi0 rfl (fun v73 σ73 h73 => ?_)
        rcases h73 with ⟨f73, rfl, rfl⟩ | ⟨f73, rfl, rfl⟩
        · skip
          refine q_iastore (n := 77) dX8_statement_76 rfl mi15 ⟨by omega, by omega⟩ ?_
          rw [om_sr]
          refine q_go (t := 156) dX8_statement_77 (by decide) ?_
          refine q_iload_n (n := 157) dX8_statement_156 rfl rfl ?_
          refine q_iret dX8_statement_157 rfl (fun _ => rfl) ?_
          first
            | (have e : pStat (tT (tx σ)) p rd = .inr (ud rd 0 ((tT (tx σ)) (p + 1) - 48), p + 1 + 1) := by
                 unfold pStat
                 rw [if_pos h13, if_pos f73]
               exact ⟨_, rfl, Or.inr ⟨_, _, e, rfl, rfl⟩⟩)
            | (have e : pStat (tT (tx σ)) p rd = .inl (p + 1) := by
                 unfold pStat
                 rw [if_pos h13, if_neg f73]
               exact ⟨_, rfl, Or.inl ⟨_, e, ⟨_, rfl⟩, _, rfl⟩⟩)
            | (have e : pStat (tT (tx σ)) p rd = .inr (ud (ud rd 0 ((tT (tx σ)) (p + 1) - 48)) 1 (ixL ((tT (tx σ)) (p + 1 + 1)) 12 0), p + 1 + 1 + 1) := by
                 unfold pStat
                 rw [if_neg h13, if_neg h19, if_pos h25, if_pos f135, if_pos f145]
               exact ⟨_, rfl, Or.inr ⟨_, _, e, rfl, rfl⟩⟩)
            | (have e : pStat (tT (tx σ)) p rd = .inl (p + 1 + 1) := by
                 unfold pStat
                 rw [if_neg h13, if_neg h19, if_pos h25, if_pos f135, if_neg f145]
               exact ⟨_, rfl, Or.inl ⟨_, e, ⟨_, rfl⟩, _, rfl⟩⟩)
            | (have e : pStat (tT (tx σ)) p rd = .inl (p + 1) := by
                 unfold pStat
                 rw [if_neg h13, if_neg h19, if_pos h25, if_neg f135]
               exact ⟨_, rfl, Or.inl ⟨_, e, ⟨_, rfl⟩, _, rfl⟩⟩)
            | (have e : pStat (tT (tx σ)) p rd = vxR (tT (tx σ)) (p + 1) rd := by
                 unfold pStat
                 rw [if_neg h13, if_neg h19, if_neg h25, if_pos h31]
                 exact vxR_e
               rw [e]
               exact st_q rfl hst)
        · skip
          refine q_iastore (n := 77) dX8_statement_76 rfl mi15 ⟨by omega, by omega⟩ ?_
          rw [om_sr]
          refine q_go (t := 156) dX8_statement_77 (by decide) ?_
          refine q_iload_n (n := 157) dX8_statement_156 rfl rfl ?_
          refine q_iret dX8_statement_157 rfl (fun _ => rfl) ?_
          first
            | (have e : pStat (tT (tx σ)) p rd = .inr (ud rd 0 ((tT (tx σ)) (p + 1) - 48), p + 1 + 1) := by
                 unfold pStat
                 rw [if_pos h13, if_pos f73]
               exact ⟨_, rfl, Or.inr ⟨_, _, e, rfl, rfl⟩⟩)
            | (have e : pStat (tT (tx σ)) p rd = .inl (p + 1) := by
                 unfold pStat
                 rw [if_pos h13, if_neg f73]
               exact ⟨_, rfl, Or.inl ⟨_, e, ⟨_, rfl⟩, _, rfl⟩⟩)
            | (have e : pStat (tT (tx σ)) p rd = .inr (ud (ud rd 0 ((tT (tx σ)) (p + 1) - 48)) 1 (ixL ((tT (tx σ)) (p + 1 + 1)) 12 0), p + 1 + 1 + 1) := by
                 unfold pStat
                 rw [if_neg h13, if_neg h19, if_pos h25, if_pos f135, if_pos f145]
               exact ⟨_, rfl, Or.inr ⟨_, _, e, rfl, rfl⟩⟩)
            | (have e : pStat (tT (tx σ)) p rd = .inl (p + 1 + 1) := by
                 unfold pStat
                 rw [if_neg h13, if_neg h19, if_pos h25, if_pos f135, if_neg f145]
               exact ⟨_, rfl, Or.inl ⟨_, e, ⟨_, rfl⟩, _, rfl⟩⟩)
            | (have e : pStat (tT (tx σ)) p rd = .inl (p + 1) := by
                 unfold pStat
                 rw [if_neg h13, if_neg h19, if_pos h25, if_neg f135]
               exact ⟨_, rfl, Or.inl ⟨_, e, ⟨_, rfl⟩, _, rfl⟩⟩)
            | (have e : pStat (tT (tx σ)) p rd = vxR (tT (tx σ)) (p + 1) rd := by
                 unfold pStat
                 rw [if_neg h13, if_neg h19, if_neg h25, if_pos h31]
                 exact vxR_e
               rw [e]
               exact st_q rfl hst)
    · exact absurd h46 (by decide)
  · skip
    refine q_iload_n (n := 17) dX8_statement_16 rfl rfl ?_
    refine q_bipush (n := 19) dX8_statement_17 rfl (k := ?_)
    refine q_icmp_eq (n := 22) (t := 38) dX8_statement_19 rfl (by decide) (fun h19 => ?_) (fun h19 => ?_)
    · have hlt := hlt (by omega)
      refine q_iconst (n := 39) dX8_statement_38 rfl (k := ?_)
      refine q_putZ (kI := 30) (n := 42) dX8_statement_39 rfl pX8_331 mi0 rfl rfl ⟨by decide, by decide⟩ ?_
      rw [om_sw]
      refine q_aload_n (n := 43) dX8_statement_42 rfl rfl ?_
      refine q_getIE (0) (kI := 30) (n := 46) (by decide) dX8_statement_43 rfl fX8_331 mi0 rfl rfl om_tw ?_
      refine q_if_eq (n := 49) (t := 51) dX8_statement_46 rfl (by decide) (fun h46 => ?_) (fun h46 => ?_)
      · skip
        refine q_aload_n (n := 52) dX8_statement_51 rfl rfl ?_
        refine q_dup (n := 53) dX8_statement_52 rfl rfl ?_
        refine q_getIE (p) (kI := 29) (n := 56) (by decide) dX8_statement_53 rfl fX8_321 mi0 rfl rfl om_tp ?_
        refine q_iconst (n := 57) dX8_statement_56 rfl (k := ?_)
        refine q_iaddS (n := 58) dX8_statement_57 rfl ⟨by omega, by omega⟩ ?_
        refine q_putI (kI := 29) (n := 61) dX8_statement_58 rfl pX8_321 mi0 rfl rfl ?_
        rw [om_sp]
        refine q_iload_n (n := 62) dX8_statement_61 rfl rfl ?_
        refine q_bipush (n := 64) dX8_statement_62 rfl (k := ?_)
        refine q_icmp_ne (n := 67) (t := 80) dX8_statement_64 rfl (by decide) (fun h64 => ?_) (fun h64 => ?_)
        · skip
          refine q_iload_n (n := 81) dX8_statement_80 rfl rfl ?_
          refine q_bipush (n := 83) dX8_statement_81 rfl (k := ?_)
          refine q_icmp_ne (n := 86) (t := 123) dX8_statement_83 rfl (by decide) (fun h83 => ?_) (fun h83 => ?_)
          · exact absurd h19 h83
          · skip
            refine q_iconst (n := 87) dX8_statement_86 rfl (k := ?_)
            refine q_istore_n (n := 88) dX8_statement_87 rfl (Nat.le_of_ble_eq_true rfl) (q_s1_s (q_s1_1 rfl)) ?_
            refine (lpX8_nu0 σ s ((tT (tx σ)) p) hI 6 0 (p + 1) rd (by decide) (by decide) ⟨by omega, by omega⟩).imp (fun r σ2 h => ?_)
            have e : pStat (tT (tx σ)) p rd = pNums (tT (tx σ)) 6 0 (p + 1) rd := by
              unfold pStat
              rw [if_neg h13, if_pos h19]
            rw [e]
            exact st_q h.1 h.2
        · exact absurd (h19.symm.trans h64) (by decide)
      · exact absurd h46 (by decide)
    · skip
      refine q_iload_n (n := 23) dX8_statement_22 rfl rfl ?_
      refine q_bipush (n := 25) dX8_statement_23 rfl (k := ?_)
      refine q_icmp_eq (n := 28) (t := 38) dX8_statement_25 rfl (by decide) (fun h25 => ?_) (fun h25 => ?_)
      · have hlt := hlt (by omega)
        refine q_iconst (n := 39) dX8_statement_38 rfl (k := ?_)
        refine q_putZ (kI := 30) (n := 42) dX8_statement_39 rfl pX8_331 mi0 rfl rfl ⟨by decide, by decide⟩ ?_
        rw [om_sw]
        refine q_aload_n (n := 43) dX8_statement_42 rfl rfl ?_
        refine q_getIE (0) (kI := 30) (n := 46) (by decide) dX8_statement_43 rfl fX8_331 mi0 rfl rfl om_tw ?_
        refine q_if_eq (n := 49) (t := 51) dX8_statement_46 rfl (by decide) (fun h46 => ?_) (fun h46 => ?_)
        · skip
          refine q_aload_n (n := 52) dX8_statement_51 rfl rfl ?_
          refine q_dup (n := 53) dX8_statement_52 rfl rfl ?_
          refine q_getIE (p) (kI := 29) (n := 56) (by decide) dX8_statement_53 rfl fX8_321 mi0 rfl rfl om_tp ?_
          refine q_iconst (n := 57) dX8_statement_56 rfl (k := ?_)
          refine q_iaddS (n := 58) dX8_statement_57 rfl ⟨by omega, by omega⟩ ?_
          refine q_putI (kI := 29) (n := 61) dX8_statement_58 rfl pX8_321 mi0 rfl rfl ?_
          rw [om_sp]
          refine q_iload_n (n := 62) dX8_statement_61 rfl rfl ?_
          refine q_bipush (n := 64) dX8_statement_62 rfl (k := ?_)
          refine q_icmp_ne (n := 67) (t := 80) dX8_statement_64 rfl (by decide) (fun h64 => ?_) (fun h64 => ?_)
          · skip
            refine q_iload_n (n := 81) dX8_statement_80 rfl rfl ?_
            refine q_bipush (n := 83) dX8_statement_81 rfl (k := ?_)
            refine q_icmp_ne (n := 86) (t := 123) dX8_statement_83 rfl (by decide) (fun h83 => ?_) (fun h83 => ?_)
            · skip
              refine q_iload_n (n := 124) dX8_statement_123 rfl rfl ?_
              refine q_bipush (n := 126) dX8_statement_124 rfl (k := ?_)
              refine q_icmp_ne (n := 129) (t := 152) dX8_statement_126 rfl (by decide) (fun h126 => ?_) (fun h126 => ?_)
              · exact absurd h25 h126
              · skip
                refine q_aload_n (n := 130) dX8_statement_129 rfl rfl ?_
                refine q_getR (n := 133) dX8_statement_130 rfl fX8_66 mi0 rfl ?_
                refine q_iconst (n := 134) dX8_statement_133 rfl (k := ?_)
                refine q_aload_n (n := 135) dX8_statement_134 rfl rfl ?_
                refine q_v0 (n := 138) dX8_statement_135 rfl (zX8_figure0 σ s _ _ hI ⟨by omega, by omega⟩) vX8_figure lX8_338 rfl rfl mi0 rfl (fun v135 σ135 h135 => ?_)
                rcases h135 with ⟨f135, rfl, rfl⟩ | ⟨f135, rfl, rfl⟩
                · skip
                  refine q_iastore (n := 139) dX8_statement_138 rfl mi15 ⟨by omega, by omega⟩ ?_
                  rw [om_sr]
                  refine q_aload_n (n := 140) dX8_statement_139 rfl rfl ?_
                  refine q_getR (n := 143) dX8_statement_140 rfl fX8_66 mi0 rfl ?_
                  refine q_iconst (n := 144) dX8_statement_143 rfl (k := ?_)
                  refine q_aload_n (n := 145) dX8_statement_144 rfl rfl ?_
                  refine q_v0 (n := 148) dX8_statement_145 rfl (zX8_letterKind0 σ s _ _ hI ⟨by omega, by omega⟩) vX8_letterKind lX8_347 rfl rfl mi0 rfl (fun v145 σ145 h145 => ?_)
                  rcases h145 with ⟨f145, rfl, rfl⟩ | ⟨f145, rfl, rfl⟩
                  · skip
                    refine q_iastore (n := 149) dX8_statement_148 rfl mi15 ⟨by omega, by omega⟩ ?_
                    rw [om_sr]
                    refine q_go (t := 156) dX8_statement_149 (by decide) ?_
                    refine q_iload_n (n := 157) dX8_statement_156 rfl rfl ?_
                    refine q_iret dX8_statement_157 rfl (fun _ => rfl) ?_
                    first
                      | (have e : pStat (tT (tx σ)) p rd = .inr (ud rd 0 ((tT (tx σ)) (p + 1) - 48), p + 1 + 1) := by
                           unfold pStat
                           rw [if_pos h13, if_pos f73]
                         exact ⟨_, rfl, Or.inr ⟨_, _, e, rfl, rfl⟩⟩)
                      | (have e : pStat (tT (tx σ)) p rd = .inl (p + 1) := by
                           unfold pStat
                           rw [if_pos h13, if_neg f73]
                         exact ⟨_, rfl, Or.inl ⟨_, e, ⟨_, rfl⟩, _, rfl⟩⟩)
                      | (have e : pStat (tT (tx σ)) p rd = .inr (ud (ud rd 0 ((tT (tx σ)) (p + 1) - 48)) 1 (ixL ((tT (tx σ)) (p + 1 + 1)) 12 0), p + 1 + 1 + 1) := by
                           unfold pStat
                           rw [if_neg h13, if_neg h19, if_pos h25, if_pos f135, if_pos f145]
                         exact ⟨_, rfl, Or.inr ⟨_, _, e, rfl, rfl⟩⟩)
                      | (have e : pStat (tT (tx σ)) p rd = .inl (p + 1 + 1) := by
                           unfold pStat
                           rw [if_neg h13, if_neg h19, if_pos h25, if_pos f135, if_neg f145]
                         exact ⟨_, rfl, Or.inl ⟨_, e, ⟨_, rfl⟩, _, rfl⟩⟩)
                      | (have e : pStat (tT (tx σ)) p rd = .inl (p + 1) := by
                           unfold pStat
                           rw [if_neg h13, if_neg h19, if_pos h25, if_neg f135]
                         exact ⟨_, rfl, Or.inl ⟨_, e, ⟨_, rfl⟩, _, rfl⟩⟩)
                      | (have e : pStat (tT (tx σ)) p rd = vxR (tT (tx σ)) (p + 1) rd := by
                           unfold pStat
                           rw [if_neg h13, if_neg h19, if_neg h25, if_pos h31]
                           exact vxR_e
                         rw [e]
                         exact st_q rfl hst)
                  · skip
                    refine q_iastore (n := 149) dX8_statement_148 rfl mi15 ⟨by omega, by omega⟩ ?_
                    rw [om_sr]
                    refine q_go (t := 156) dX8_statement_149 (by decide) ?_
                    refine q_iload_n (n := 157) dX8_statement_156 rfl rfl ?_
                    refine q_iret dX8_statement_157 rfl (fun _ => rfl) ?_
                    first
                      | (have e : pStat (tT (tx σ)) p rd = .inr (ud rd 0 ((tT (tx σ)) (p + 1) - 48), p + 1 + 1) := by
                           unfold pStat
                           rw [if_pos h13, if_pos f73]
                         exact ⟨_, rfl, Or.inr ⟨_, _, e, rfl, rfl⟩⟩)
                      | (have e : pStat (tT (tx σ)) p rd = .inl (p + 1) := by
                           unfold pStat
                           rw [if_pos h13, if_neg f73]
                         exact ⟨_, rfl, Or.inl ⟨_, e, ⟨_, rfl⟩, _, rfl⟩⟩)
                      | (have e : pStat (tT (tx σ)) p rd = .inr (ud (ud rd 0 ((tT (tx σ)) (p + 1) - 48)) 1 (ixL ((tT (tx σ)) (p + 1 + 1)) 12 0), p + 1 + 1 + 1) := by
                           unfold pStat
                           rw [if_neg h13, if_neg h19, if_pos h25, if_pos f135, if_pos f145]
                         exact ⟨_, rfl, Or.inr ⟨_, _, e, rfl, rfl⟩⟩)
                      | (have e : pStat (tT (tx σ)) p rd = .inl (p + 1 + 1) := by
                           unfold pStat
                           rw [if_neg h13, if_neg h19, if_pos h25, if_pos f135, if_neg f145]
                         exact ⟨_, rfl, Or.inl ⟨_, e, ⟨_, rfl⟩, _, rfl⟩⟩)
                      | (have e : pStat (tT (tx σ)) p rd = .inl (p + 1) := by
                           unfold pStat
                           rw [if_neg h13, if_neg h19, if_pos h25, if_neg f135]
                         exact ⟨_, rfl, Or.inl ⟨_, e, ⟨_, rfl⟩, _, rfl⟩⟩)
                      | (have e : pStat (tT (tx σ)) p rd = vxR (tT (tx σ)) (p + 1) rd := by
                           unfold pStat
                           rw [if_neg h13, if_neg h19, if_neg h25, if_pos h31]
                           exact vxR_e
                         rw [e]
                         exact st_q rfl hst)
                · skip
                  refine q_iastore (n := 139) dX8_statement_138 rfl mi15 ⟨by omega, by omega⟩ ?_
                  rw [om_sr]
                  refine q_aload_n (n := 140) dX8_statement_139 rfl rfl ?_
                  refine q_getR (n := 143) dX8_statement_140 rfl fX8_66 mi0 rfl ?_
                  refine q_iconst (n := 144) dX8_statement_143 rfl (k := ?_)
                  refine q_aload_n (n := 145) dX8_statement_144 rfl rfl ?_
                  refine q_v0D (n := 148) dX8_statement_145 rfl (zX8_letterKind1 σ s _ _ hI ⟨by omega, by omega⟩) vX8_letterKind lX8_347 rfl rfl mi0 rfl ?_
                  refine q_iastore (n := 149) dX8_statement_148 rfl mi15 ⟨by omega, by omega⟩ ?_
                  rw [om_sr]
                  refine q_go (t := 156) dX8_statement_149 (by decide) ?_
                  refine q_iload_n (n := 157) dX8_statement_156 rfl rfl ?_
                  refine q_iret dX8_statement_157 rfl (fun _ => rfl) ?_
                  first
                    | (have e : pStat (tT (tx σ)) p rd = .inr (ud rd 0 ((tT (tx σ)) (p + 1) - 48), p + 1 + 1) := by
                         unfold pStat
                         rw [if_pos h13, if_pos f73]
                       exact ⟨_, rfl, Or.inr ⟨_, _, e, rfl, rfl⟩⟩)
                    | (have e : pStat (tT (tx σ)) p rd = .inl (p + 1) := by
                         unfold pStat
                         rw [if_pos h13, if_neg f73]
                       exact ⟨_, rfl, Or.inl ⟨_, e, ⟨_, rfl⟩, _, rfl⟩⟩)
                    | (have e : pStat (tT (tx σ)) p rd = .inr (ud (ud rd 0 ((tT (tx σ)) (p + 1) - 48)) 1 (ixL ((tT (tx σ)) (p + 1 + 1)) 12 0), p + 1 + 1 + 1) := by
                         unfold pStat
                         rw [if_neg h13, if_neg h19, if_pos h25, if_pos f135, if_pos f145]
                       exact ⟨_, rfl, Or.inr ⟨_, _, e, rfl, rfl⟩⟩)
                    | (have e : pStat (tT (tx σ)) p rd = .inl (p + 1 + 1) := by
                         unfold pStat
                         rw [if_neg h13, if_neg h19, if_pos h25, if_pos f135, if_neg f145]
                       exact ⟨_, rfl, Or.inl ⟨_, e, ⟨_, rfl⟩, _, rfl⟩⟩)
                    | (have e : pStat (tT (tx σ)) p rd = .inl (p + 1) := by
                         unfold pStat
                         rw [if_neg h13, if_neg h19, if_pos h25, if_neg f135]
                       exact ⟨_, rfl, Or.inl ⟨_, e, ⟨_, rfl⟩, _, rfl⟩⟩)
                    | (have e : pStat (tT (tx σ)) p rd = vxR (tT (tx σ)) (p + 1) rd := by
                         unfold pStat
                         rw [if_neg h13, if_neg h19, if_neg h25, if_pos h31]
                         exact vxR_e
                       rw [e]
                       exact st_q rfl hst)
            · exact absurd (h25.symm.trans h83) (by decide)
          · exact absurd (h25.symm.trans h64) (by decide)
        · exact absurd h46 (by decide)
      · skip
        refine q_iload_n (n := 29) dX8_statement_28 rfl rfl ?_
        refine q_bipush (n := 31) dX8_statement_29 rfl (k := ?_)
        refine q_icmp_eq (n := 34) (t := 38) dX8_statement_31 rfl (by decide) (fun h31 => ?_) (fun h31 => ?_)
        · have hlt := hlt (by omega)
          refine q_iconst (n := 39) dX8_statement_38 rfl (k := ?_)
          refine q_putZ (kI := 30) (n := 42) dX8_statement_39 rfl pX8_331 mi0 rfl rfl ⟨by decide, by decide⟩ ?_
          rw [om_sw]
          refine q_aload_n (n := 43) dX8_statement_42 rfl rfl ?_
          refine q_getIE (0) (kI := 30) (n := 46) (by decide) dX8_statement_43 rfl fX8_331 mi0 rfl rfl om_tw ?_
          refine q_if_eq (n := 49) (t := 51) dX8_statement_46 rfl (by decide) (fun h46 => ?_) (fun h46 => ?_)
          · skip
            refine q_aload_n (n := 52) dX8_statement_51 rfl rfl ?_
            refine q_dup (n := 53) dX8_statement_52 rfl rfl ?_
            refine q_getIE (p) (kI := 29) (n := 56) (by decide) dX8_statement_53 rfl fX8_321 mi0 rfl rfl om_tp ?_
            refine q_iconst (n := 57) dX8_statement_56 rfl (k := ?_)
            refine q_iaddS (n := 58) dX8_statement_57 rfl ⟨by omega, by omega⟩ ?_
            refine q_putI (kI := 29) (n := 61) dX8_statement_58 rfl pX8_321 mi0 rfl rfl ?_
            rw [om_sp]
            refine q_iload_n (n := 62) dX8_statement_61 rfl rfl ?_
            refine q_bipush (n := 64) dX8_statement_62 rfl (k := ?_)
            refine q_icmp_ne (n := 67) (t := 80) dX8_statement_64 rfl (by decide) (fun h64 => ?_) (fun h64 => ?_)
            · skip
              refine q_iload_n (n := 81) dX8_statement_80 rfl rfl ?_
              refine q_bipush (n := 83) dX8_statement_81 rfl (k := ?_)
              refine q_icmp_ne (n := 86) (t := 123) dX8_statement_83 rfl (by decide) (fun h83 => ?_) (fun h83 => ?_)
              · skip
                refine q_iload_n (n := 124) dX8_statement_123 rfl rfl ?_
                refine q_bipush (n := 126) dX8_statement_124 rfl (k := ?_)
                refine q_icmp_ne (n := 129) (t := 152) dX8_statement_126 rfl (by decide) (fun h126 => ?_) (fun h126 => ?_)
                · skip
                  refine q_aload_n (n := 153) dX8_statement_152 rfl rfl ?_
                  refine q_v0W (n := 156) dX8_statement_153 rfl (zX8_readsVertex σ s _ _ hI ⟨by omega, by omega⟩) vX8_readsVertex lX8_350 rfl rfl mi0 rfl (fun σ153 h153 => ?_)
                  have hst := h153
                  · skip
                    refine q_iload_n (n := 157) dX8_statement_156 rfl rfl ?_
                    refine q_iret dX8_statement_157 rfl (fun _ => rfl) ?_
                    first
                      | (have e : pStat (tT (tx σ)) p rd = .inr (ud rd 0 ((tT (tx σ)) (p + 1) - 48), p + 1 + 1) := by
                           unfold pStat
                           rw [if_pos h13, if_pos f73]
                         exact ⟨_, rfl, Or.inr ⟨_, _, e, rfl, rfl⟩⟩)
                      | (have e : pStat (tT (tx σ)) p rd = .inl (p + 1) := by
                           unfold pStat
                           rw [if_pos h13, if_neg f73]
                         exact ⟨_, rfl, Or.inl ⟨_, e, ⟨_, rfl⟩, _, rfl⟩⟩)
                      | (have e : pStat (tT (tx σ)) p rd = .inr (ud (ud rd 0 ((tT (tx σ)) (p + 1) - 48)) 1 (ixL ((tT (tx σ)) (p + 1 + 1)) 12 0), p + 1 + 1 + 1) := by
                           unfold pStat
                           rw [if_neg h13, if_neg h19, if_pos h25, if_pos f135, if_pos f145]
                         exact ⟨_, rfl, Or.inr ⟨_, _, e, rfl, rfl⟩⟩)
                      | (have e : pStat (tT (tx σ)) p rd = .inl (p + 1 + 1) := by
                           unfold pStat
                           rw [if_neg h13, if_neg h19, if_pos h25, if_pos f135, if_neg f145]
                         exact ⟨_, rfl, Or.inl ⟨_, e, ⟨_, rfl⟩, _, rfl⟩⟩)
                      | (have e : pStat (tT (tx σ)) p rd = .inl (p + 1) := by
                           unfold pStat
                           rw [if_neg h13, if_neg h19, if_pos h25, if_neg f135]
                         exact ⟨_, rfl, Or.inl ⟨_, e, ⟨_, rfl⟩, _, rfl⟩⟩)
                      | (have e : pStat (tT (tx σ)) p rd = vxR (tT (tx σ)) (p + 1) rd := by
                           unfold pStat
                           rw [if_neg h13, if_neg h19, if_neg h25, if_pos h31]
                           exact vxR_e
                         rw [e]
                         exact st_q rfl hst)
                · exact absurd (h31.symm.trans h126) (by decide)
              · exact absurd (h31.symm.trans h83) (by decide)
            · exact absurd (h31.symm.trans h64) (by decide)
          · exact absurd h46 (by decide)
        · skip
          refine q_iconst (n := 35) dX8_statement_34 rfl (k := ?_)
          refine q_go (t := 39) dX8_statement_35 (by decide) ?_
          refine q_putZ (kI := 30) (n := 42) dX8_statement_39 rfl pX8_331 mi0 rfl rfl ⟨by decide, by decide⟩ ?_
          rw [om_sw]
          refine q_aload_n (n := 43) dX8_statement_42 rfl rfl ?_
          refine q_getIE (1) (kI := 30) (n := 46) (by decide) dX8_statement_43 rfl fX8_331 mi0 rfl rfl om_tw ?_
          refine q_if_eq (n := 49) (t := 51) dX8_statement_46 rfl (by decide) (fun h46 => ?_) (fun h46 => ?_)
          · exact absurd h46 (by decide)
          · skip
            refine q_iconst (n := 50) dX8_statement_49 rfl (k := ?_)
            refine q_iret dX8_statement_50 rfl (fun _ => rfl) ?_
            have e : pStat (tT (tx σ)) p rd = .inl p := by
              unfold pStat
              rw [if_neg h13, if_neg h19, if_neg h25, if_neg h31]
            exact ⟨_, rfl, Or.inl ⟨p, e, ⟨_, rfl⟩, _, rfl⟩⟩
