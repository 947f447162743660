theorem up_self {σ : q_S} {c k : Int} : q_up σ c k (σ c k) = σ := by
  funext c' x'
  unfold q_up
  by_cases h : c' = c ∧ x' = k
  · rw [if_pos h, h.1, h.2]
  · rw [if_neg h]
set_option maxRecDepth 100000 in
theorem zX6_readKind (σ : q_S) (pl : Int) (rd : Int → Int) (hl : 0 ≤ σ 91 1 ∧ σ 91 1 ≤ 120) (hp : 0 ≤ pl ∧ pl ≤ 140) (hT : 0 ≤ tT σ pl ∧ tT σ pl ≤ 127) : q_Ct mX6_readKind shX [.inr (.inr 91)] (tp σ pl rd) (fun r σ' => ∃ v, r = some v ∧ (0 ≤ ixL (tT σ pl) 12 0 ∧ v = .inl 1 ∧ σ' = tp σ (pl + 1) (ud rd 1 (ixL (tT σ pl) 12 0)) ∨ ¬ 0 ≤ ixL (tT σ pl) 12 0 ∧ v = .inl 0 ∧ σ' = tp σ pl rd)) := by
  refine q_ct 1 (by decide) rfl rfl ?_
  show q_WP mX6_readKind shX 0 [some (.inr (.inr 91)), none] [] (tp σ pl rd) _
  refine q_ldc60 (n := 2) dX6_readKind_0 rfl rfl ?_
  refine q_aload_n (n := 3) dX6_readKind_2 rfl rfl ?_
  refine q_v0D (n := 6) dX6_readKind_3 rfl (zX6_here σ _ _ hl (by omega)) vX6_here lX6_37 rfl rfl xi91 rfl ?_
  refine q_i2c_ (n := 7) dX6_readKind_6 rfl ?_
  refine q_topI (tT σ pl) (i2c_id (by omega)) ?_
  refine q_t1 (n := 10) dX6_readKind_7 rfl (zJ0_indexOf_0f7a4 _ _ _ hT) vJ0_indexOf_0f7a4 rfl lX6_62 rfl rfl ?_
  refine q_istore_n (n := 11) dX6_readKind_10 rfl (Nat.le_of_ble_eq_true rfl) (q_s1_1 rfl) ?_
  refine q_iload_n (n := 12) dX6_readKind_11 rfl rfl ?_
  refine q_if_ge (n := 15) (t := 17) dX6_readKind_12 rfl (by decide) (fun h12 => ?_) (fun h12 => ?_)
  · skip
    refine q_aload_n (n := 18) dX6_readKind_17 rfl rfl ?_
    refine q_getR (n := 21) dX6_readKind_18 rfl fX6_25 xi91 rfl ?_
    refine q_iconst (n := 22) dX6_readKind_21 rfl (k := ?_)
    refine q_iload_n (n := 23) dX6_readKind_22 rfl rfl ?_
    refine q_iastore (n := 24) dX6_readKind_23 rfl xi93 ⟨by omega, by omega⟩ ?_
    refine q_aload_n (n := 25) dX6_readKind_24 rfl rfl ?_
    refine q_dup (n := 26) dX6_readKind_25 rfl rfl ?_
    refine q_getIE (pl) (kI := 2) (n := 29) (by decide) dX6_readKind_26 rfl fX6_19 xi91 rfl rfl (by rw [tp_ud]; exact tp_pl) ?_
    refine q_iconst (n := 30) dX6_readKind_29 rfl (k := ?_)
    refine q_iaddS (n := 31) dX6_readKind_30 rfl ⟨by omega, by omega⟩ ?_
    refine q_putI (kI := 2) (n := 34) dX6_readKind_31 rfl pX6_19 xi91 rfl rfl ?_
    refine q_iconst (n := 35) dX6_readKind_34 rfl (k := ?_)
    refine q_iret dX6_readKind_35 rfl (fun _ => rfl) ?_
    first
      | exact ⟨_, rfl, Or.inl ⟨h12, rfl, by rw [tp_ud, tp_setpl]⟩⟩
      | exact ⟨_, rfl, Or.inr ⟨h12, rfl, rfl⟩⟩
  · skip
    refine q_iconst (n := 16) dX6_readKind_15 rfl (k := ?_)
    refine q_iret dX6_readKind_16 rfl (fun _ => rfl) ?_
    first
      | exact ⟨_, rfl, Or.inl ⟨h12, rfl, by rw [tp_ud, tp_setpl]⟩⟩
      | exact ⟨_, rfl, Or.inr ⟨h12, rfl, rfl⟩⟩
theorem tT_rng {σ : q_S} {k : Int} (hby : ∀ k : Int, 0 ≤ k → k < σ 91 1 → 1 ≤ σ 92 k ∧ σ 92 k ≤ 127) (h : 0 ≤ k) : 0 ≤ tT σ k ∧ tT σ k ≤ 127 := by
  unfold tT
  split
  · have := hby k h (by assumption)
    omega
  · omega
set_option maxHeartbeats 2000000 in
set_option maxRecDepth 100000 in
theorem zX6_readStatement (σ : q_S) (pl : Int) (rd : Int → Int) (hl : 0 ≤ σ 91 1 ∧ σ 91 1 ≤ 120) (hby : ∀ k : Int, 0 ≤ k → k < σ 91 1 → 1 ≤ σ 92 k ∧ σ 92 k ≤ 127) (hp : 0 ≤ pl ∧ pl ≤ σ 91 1) : q_Ct mX6_readStatement shX [.inr (.inr 91)] (tp σ pl rd) (fun r σ' => ∃ v, r = some v ∧ ((∃ q, pStat (tT σ) pl rd = .inl q ∧ v = .inl 0 ∧ ∃ rd', σ' = tp (q_up σ 91 3 (tT σ pl)) q rd') ∨ (∃ rd' q, pStat (tT σ) pl rd = .inr (rd', q) ∧ v = .inl 1 ∧ σ' = tp (q_up σ 91 3 (tT σ pl)) q rd'))) := by
  refine q_ct 0 (by decide) rfl rfl ?_
  show q_WP mX6_readStatement shX 0 [some (.inr (.inr 91))] [] (tp σ pl rd) _
  have hlt := tT_lt (σ := σ) (p := pl)
  have hlt2 := tT_lt (σ := σ) (p := pl + 1)
  refine q_aload_n (n := 1) dX6_readStatement_0 rfl rfl ?_
  refine q_aload_n (n := 2) dX6_readStatement_1 rfl rfl ?_
  refine q_v0D (n := 5) dX6_readStatement_2 rfl (zX6_here σ _ _ hl (by omega)) vX6_here lX6_37 rfl rfl xi91 rfl ?_
  refine q_putI (kI := 3) (n := 8) dX6_readStatement_5 rfl pX6_22 xi91 rfl rfl ?_
  refine q_aload_n (n := 9) dX6_readStatement_8 rfl rfl ?_
  refine q_getIE (tT σ pl) (kI := 3) (n := 12) (by decide) dX6_readStatement_9 rfl fX6_22 xi91 rfl rfl (by rw [tp_st]; rw [tp_o (by decide)]; exact q_up_s) ?_
  refine q_bipush (n := 14) dX6_readStatement_12 rfl (k := ?_)
  refine q_icmp_eq (n := 17) (t := 46) dX6_readStatement_14 rfl (by decide) (fun h14 => ?_) (fun h14 => ?_)
  · skip
    refine q_aload_n (n := 47) dX6_readStatement_46 rfl rfl ?_
    refine q_dup (n := 48) dX6_readStatement_47 rfl rfl ?_
    refine q_getIE (pl) (kI := 2) (n := 51) (by decide) dX6_readStatement_48 rfl fX6_19 xi91 rfl rfl (by rw [tp_st]; exact tp_pl) ?_
    refine q_iconst (n := 52) dX6_readStatement_51 rfl (k := ?_)
    refine q_iaddS (n := 53) dX6_readStatement_52 rfl ⟨by omega, by omega⟩ ?_
    refine q_putI (kI := 2) (n := 56) dX6_readStatement_53 rfl pX6_19 xi91 rfl rfl ?_
    rw [tp_st, tp_setpl]
    refine q_aload_n (n := 57) dX6_readStatement_56 rfl rfl ?_
    refine q_getIE (tT σ pl) (kI := 3) (n := 60) (by decide) dX6_readStatement_57 rfl fX6_22 xi91 rfl rfl (by rw [tp_o (by decide)]; exact q_up_s) ?_
    refine q_topI (102) h14 ?_
    refine q_lookup (off := 36) (t := 96) dX6_readStatement_60 (by decide) (by decide) (by decide) ?_
    refine q_aload_n (n := 97) dX6_readStatement_96 rfl rfl ?_
    refine q_iconst (n := 98) dX6_readStatement_97 rfl (k := ?_)
    refine q_v1 (n := 101) dX6_readStatement_98 rfl (zX6_readFigure (q_up σ 91 3 (tT σ pl)) _ _ _ (by rw [q_up_n (by decide)]; exact hl) (by omega) (by omega)) vX6_readFigure lX6_41 rfl rfl xi91 rfl (fun v98 σ98 h98 => ?_)
    rw [tT_up (by decide)] at h98
    rcases h98 with ⟨hb, rfl, rfl⟩ | ⟨hb, rfl, rfl⟩
    · skip
      refine q_iret dX6_readStatement_101 rfl (fun _ => rfl) ?_
      first
        | exact ⟨_, rfl, Or.inl ⟨_, by unfold pStat; rw [if_neg h14, if_neg h23, if_neg h32, if_neg h41], rfl, _, by rw [tp_st]⟩⟩
        | exact ⟨_, rfl, Or.inr ⟨_, _, by unfold pStat; rw [if_pos h14, if_pos hb], rfl, rfl⟩⟩
        | exact ⟨_, rfl, Or.inl ⟨_, by unfold pStat; rw [if_pos h14, if_neg hb], rfl, _, rfl⟩⟩
        | exact ⟨_, rfl, Or.inl ⟨_, by unfold pStat; rw [if_neg h14, if_pos h23]; exact hq, rfl, _, rfl⟩⟩
        | exact ⟨_, rfl, Or.inr ⟨_, _, by unfold pStat; rw [if_neg h14, if_pos h23]; exact hq, rfl, rfl⟩⟩
        | exact ⟨_, rfl, Or.inr ⟨_, _, by unfold pStat; rw [if_neg h14, if_neg h23, if_pos h32, if_pos hb, if_pos hk], rfl, rfl⟩⟩
        | exact ⟨_, rfl, Or.inl ⟨_, by unfold pStat; rw [if_neg h14, if_neg h23, if_pos h32, if_pos hb, if_neg hk], rfl, _, rfl⟩⟩
        | exact ⟨_, rfl, Or.inl ⟨_, by unfold pStat; rw [if_neg h14, if_neg h23, if_pos h32, if_neg hb], rfl, _, rfl⟩⟩
        | exact ⟨_, rfl, Or.inr ⟨_, _, by unfold pStat; rw [if_neg h14, if_neg h23, if_neg h32, if_pos h41, hq]; exact hz, rfl, rfl⟩⟩
        | exact ⟨_, rfl, Or.inl ⟨_, by unfold pStat; rw [if_neg h14, if_neg h23, if_neg h32, if_pos h41, hq]; exact hz, rfl, _, rfl⟩⟩
        | exact ⟨_, rfl, Or.inl ⟨_, by unfold pStat; rw [if_neg h14, if_neg h23, if_neg h32, if_pos h41, hq], rfl, _, rfl⟩⟩
    · skip
      refine q_iret dX6_readStatement_101 rfl (fun _ => rfl) ?_
      first
        | exact ⟨_, rfl, Or.inl ⟨_, by unfold pStat; rw [if_neg h14, if_neg h23, if_neg h32, if_neg h41], rfl, _, by rw [tp_st]⟩⟩
        | exact ⟨_, rfl, Or.inr ⟨_, _, by unfold pStat; rw [if_pos h14, if_pos hb], rfl, rfl⟩⟩
        | exact ⟨_, rfl, Or.inl ⟨_, by unfold pStat; rw [if_pos h14, if_neg hb], rfl, _, rfl⟩⟩
        | exact ⟨_, rfl, Or.inl ⟨_, by unfold pStat; rw [if_neg h14, if_pos h23]; exact hq, rfl, _, rfl⟩⟩
        | exact ⟨_, rfl, Or.inr ⟨_, _, by unfold pStat; rw [if_neg h14, if_pos h23]; exact hq, rfl, rfl⟩⟩
        | exact ⟨_, rfl, Or.inr ⟨_, _, by unfold pStat; rw [if_neg h14, if_neg h23, if_pos h32, if_pos hb, if_pos hk], rfl, rfl⟩⟩
        | exact ⟨_, rfl, Or.inl ⟨_, by unfold pStat; rw [if_neg h14, if_neg h23, if_pos h32, if_pos hb, if_neg hk], rfl, _, rfl⟩⟩
        | exact ⟨_, rfl, Or.inl ⟨_, by unfold pStat; rw [if_neg h14, if_neg h23, if_pos h32, if_neg hb], rfl, _, rfl⟩⟩
        | exact ⟨_, rfl, Or.inr ⟨_, _, by unfold pStat; rw [if_neg h14, if_neg h23, if_neg h32, if_pos h41, hq]; exact hz, rfl, rfl⟩⟩
        | exact ⟨_, rfl, Or.inl ⟨_, by unfold pStat; rw [if_neg h14, if_neg h23, if_neg h32, if_pos h41, hq]; exact hz, rfl, _, rfl⟩⟩
        | exact ⟨_, rfl, Or.inl ⟨_, by unfold pStat; rw [if_neg h14, if_neg h23, if_neg h32, if_pos h41, hq], rfl, _, rfl⟩⟩
  · skip
    refine q_aload_n (n := 18) dX6_readStatement_17 rfl rfl ?_
    refine q_getIE (tT σ pl) (kI := 3) (n := 21) (by decide) dX6_readStatement_18 rfl fX6_22 xi91 rfl rfl (by rw [tp_st]; rw [tp_o (by decide)]; exact q_up_s) ?_
    refine q_bipush (n := 23) dX6_readStatement_21 rfl (k := ?_)
    refine q_icmp_eq (n := 26) (t := 46) dX6_readStatement_23 rfl (by decide) (fun h23 => ?_) (fun h23 => ?_)
    · skip
      refine q_aload_n (n := 47) dX6_readStatement_46 rfl rfl ?_
      refine q_dup (n := 48) dX6_readStatement_47 rfl rfl ?_
      refine q_getIE (pl) (kI := 2) (n := 51) (by decide) dX6_readStatement_48 rfl fX6_19 xi91 rfl rfl (by rw [tp_st]; exact tp_pl) ?_
      refine q_iconst (n := 52) dX6_readStatement_51 rfl (k := ?_)
      refine q_iaddS (n := 53) dX6_readStatement_52 rfl ⟨by omega, by omega⟩ ?_
      refine q_putI (kI := 2) (n := 56) dX6_readStatement_53 rfl pX6_19 xi91 rfl rfl ?_
      rw [tp_st, tp_setpl]
      refine q_aload_n (n := 57) dX6_readStatement_56 rfl rfl ?_
      refine q_getIE (tT σ pl) (kI := 3) (n := 60) (by decide) dX6_readStatement_57 rfl fX6_22 xi91 rfl rfl (by rw [tp_o (by decide)]; exact q_up_s) ?_
      refine q_topI (116) h23 ?_
      refine q_lookup (off := 42) (t := 102) dX6_readStatement_60 (by decide) (by decide) (by decide) ?_
      refine q_aload_n (n := 103) dX6_readStatement_102 rfl rfl ?_
      refine q_bipush (n := 105) dX6_readStatement_103 rfl (k := ?_)
      refine q_v1 (n := 108) dX6_readStatement_105 rfl (zX6_readNumbers (q_up σ 91 3 (tT σ pl)) _ _ _ (by rw [q_up_n (by decide)]; exact hl) (by rw [q_up_n (by decide)]; omega) (by omega)) vX6_readNumbers lX6_45 rfl rfl xi91 rfl (fun v105 σ105 h105 => ?_)
      rw [tT_up (by decide), show Int.toNat 6 = 6 from rfl] at h105
      rcases h105 with ⟨q, hq, rfl, rd2, rfl⟩ | ⟨rd2, q, hq, rfl, rfl⟩
      · skip
        refine q_iret dX6_readStatement_108 rfl (fun _ => rfl) ?_
        first
          | exact ⟨_, rfl, Or.inl ⟨_, by unfold pStat; rw [if_neg h14, if_neg h23, if_neg h32, if_neg h41], rfl, _, by rw [tp_st]⟩⟩
          | exact ⟨_, rfl, Or.inr ⟨_, _, by unfold pStat; rw [if_pos h14, if_pos hb], rfl, rfl⟩⟩
          | exact ⟨_, rfl, Or.inl ⟨_, by unfold pStat; rw [if_pos h14, if_neg hb], rfl, _, rfl⟩⟩
          | exact ⟨_, rfl, Or.inl ⟨_, by unfold pStat; rw [if_neg h14, if_pos h23]; exact hq, rfl, _, rfl⟩⟩
          | exact ⟨_, rfl, Or.inr ⟨_, _, by unfold pStat; rw [if_neg h14, if_pos h23]; exact hq, rfl, rfl⟩⟩
          | exact ⟨_, rfl, Or.inr ⟨_, _, by unfold pStat; rw [if_neg h14, if_neg h23, if_pos h32, if_pos hb, if_pos hk], rfl, rfl⟩⟩
          | exact ⟨_, rfl, Or.inl ⟨_, by unfold pStat; rw [if_neg h14, if_neg h23, if_pos h32, if_pos hb, if_neg hk], rfl, _, rfl⟩⟩
          | exact ⟨_, rfl, Or.inl ⟨_, by unfold pStat; rw [if_neg h14, if_neg h23, if_pos h32, if_neg hb], rfl, _, rfl⟩⟩
          | exact ⟨_, rfl, Or.inr ⟨_, _, by unfold pStat; rw [if_neg h14, if_neg h23, if_neg h32, if_pos h41, hq]; exact hz, rfl, rfl⟩⟩
          | exact ⟨_, rfl, Or.inl ⟨_, by unfold pStat; rw [if_neg h14, if_neg h23, if_neg h32, if_pos h41, hq]; exact hz, rfl, _, rfl⟩⟩
          | exact ⟨_, rfl, Or.inl ⟨_, by unfold pStat; rw [if_neg h14, if_neg h23, if_neg h32, if_pos h41, hq], rfl, _, rfl⟩⟩
      · skip
        refine q_iret dX6_readStatement_108 rfl (fun _ => rfl) ?_
        first
          | exact ⟨_, rfl, Or.inl ⟨_, by unfold pStat; rw [if_neg h14, if_neg h23, if_neg h32, if_neg h41], rfl, _, by rw [tp_st]⟩⟩
          | exact ⟨_, rfl, Or.inr ⟨_, _, by unfold pStat; rw [if_pos h14, if_pos hb], rfl, rfl⟩⟩
          | exact ⟨_, rfl, Or.inl ⟨_, by unfold pStat; rw [if_pos h14, if_neg hb], rfl, _, rfl⟩⟩
          | exact ⟨_, rfl, Or.inl ⟨_, by unfold pStat; rw [if_neg h14, if_pos h23]; exact hq, rfl, _, rfl⟩⟩
          | exact ⟨_, rfl, Or.inr ⟨_, _, by unfold pStat; rw [if_neg h14, if_pos h23]; exact hq, rfl, rfl⟩⟩
          | exact ⟨_, rfl, Or.inr ⟨_, _, by unfold pStat; rw [if_neg h14, if_neg h23, if_pos h32, if_pos hb, if_pos hk], rfl, rfl⟩⟩
          | exact ⟨_, rfl, Or.inl ⟨_, by unfold pStat; rw [if_neg h14, if_neg h23, if_pos h32, if_pos hb, if_neg hk], rfl, _, rfl⟩⟩
          | exact ⟨_, rfl, Or.inl ⟨_, by unfold pStat; rw [if_neg h14, if_neg h23, if_pos h32, if_neg hb], rfl, _, rfl⟩⟩
          | exact ⟨_, rfl, Or.inr ⟨_, _, by unfold pStat; rw [if_neg h14, if_neg h23, if_neg h32, if_pos h41, hq]; exact hz, rfl, rfl⟩⟩
          | exact ⟨_, rfl, Or.inl ⟨_, by unfold pStat; rw [if_neg h14, if_neg h23, if_neg h32, if_pos h41, hq]; exact hz, rfl, _, rfl⟩⟩
          | exact ⟨_, rfl, Or.inl ⟨_, by unfold pStat; rw [if_neg h14, if_neg h23, if_neg h32, if_pos h41, hq], rfl, _, rfl⟩⟩
    · skip
      refine q_aload_n (n := 27) dX6_readStatement_26 rfl rfl ?_
      refine q_getIE (tT σ pl) (kI := 3) (n := 30) (by decide) dX6_readStatement_27 rfl fX6_22 xi91 rfl rfl (by rw [tp_st]; rw [tp_o (by decide)]; exact q_up_s) ?_
      refine q_bipush (n := 32) dX6_readStatement_30 rfl (k := ?_)
      refine q_icmp_eq (n := 35) (t := 46) dX6_readStatement_32 rfl (by decide) (fun h32 => ?_) (fun h32 => ?_)
      · skip
        refine q_aload_n (n := 47) dX6_readStatement_46 rfl rfl ?_
        refine q_dup (n := 48) dX6_readStatement_47 rfl rfl ?_
        refine q_getIE (pl) (kI := 2) (n := 51) (by decide) dX6_readStatement_48 rfl fX6_19 xi91 rfl rfl (by rw [tp_st]; exact tp_pl) ?_
        refine q_iconst (n := 52) dX6_readStatement_51 rfl (k := ?_)
        refine q_iaddS (n := 53) dX6_readStatement_52 rfl ⟨by omega, by omega⟩ ?_
        refine q_putI (kI := 2) (n := 56) dX6_readStatement_53 rfl pX6_19 xi91 rfl rfl ?_
        rw [tp_st, tp_setpl]
        refine q_aload_n (n := 57) dX6_readStatement_56 rfl rfl ?_
        refine q_getIE (tT σ pl) (kI := 3) (n := 60) (by decide) dX6_readStatement_57 rfl fX6_22 xi91 rfl rfl (by rw [tp_o (by decide)]; exact q_up_s) ?_
        refine q_topI (107) h32 ?_
        refine q_lookup (off := 49) (t := 109) dX6_readStatement_60 (by decide) (by decide) (by decide) ?_
        refine q_aload_n (n := 110) dX6_readStatement_109 rfl rfl ?_
        refine q_iconst (n := 111) dX6_readStatement_110 rfl (k := ?_)
        refine q_v1 (n := 114) dX6_readStatement_111 rfl (zX6_readFigure (q_up σ 91 3 (tT σ pl)) _ _ _ (by rw [q_up_n (by decide)]; exact hl) (by omega) (by omega)) vX6_readFigure lX6_41 rfl rfl xi91 rfl (fun v111 σ111 h111 => ?_)
        rw [tT_up (by decide)] at h111
        rcases h111 with ⟨hb, rfl, rfl⟩ | ⟨hb, rfl, rfl⟩
        · skip
          refine q_if_eq (n := 117) (t := 128) dX6_readStatement_114 rfl (by decide) (fun h114 => ?_) (fun h114 => ?_)
          · exact absurd h114 (by decide)
          · skip
            refine q_aload_n (n := 118) dX6_readStatement_117 rfl rfl ?_
            refine q_v0 (n := 121) dX6_readStatement_118 rfl (zX6_readKind (q_up σ 91 3 (tT σ pl)) _ _ (by rw [q_up_n (by decide)]; exact hl) (by omega) (by rw [tT_up (by decide)]; exact tT_rng hby (by omega))) vX6_readKind lX6_48 rfl rfl xi91 rfl (fun v118 σ118 h118 => ?_)
            rw [tT_up (by decide)] at h118
            rcases h118 with ⟨hk, rfl, rfl⟩ | ⟨hk, rfl, rfl⟩
            · skip
              refine q_if_eq (n := 124) (t := 128) dX6_readStatement_121 rfl (by decide) (fun h121 => ?_) (fun h121 => ?_)
              · exact absurd h121 (by decide)
              · skip
                refine q_iconst (n := 125) dX6_readStatement_124 rfl (k := ?_)
                refine q_go (t := 129) dX6_readStatement_125 (by decide) ?_
                refine q_iret dX6_readStatement_129 rfl (fun _ => rfl) ?_
                first
                  | exact ⟨_, rfl, Or.inl ⟨_, by unfold pStat; rw [if_neg h14, if_neg h23, if_neg h32, if_neg h41], rfl, _, by rw [tp_st]⟩⟩
                  | exact ⟨_, rfl, Or.inr ⟨_, _, by unfold pStat; rw [if_pos h14, if_pos hb], rfl, rfl⟩⟩
                  | exact ⟨_, rfl, Or.inl ⟨_, by unfold pStat; rw [if_pos h14, if_neg hb], rfl, _, rfl⟩⟩
                  | exact ⟨_, rfl, Or.inl ⟨_, by unfold pStat; rw [if_neg h14, if_pos h23]; exact hq, rfl, _, rfl⟩⟩
                  | exact ⟨_, rfl, Or.inr ⟨_, _, by unfold pStat; rw [if_neg h14, if_pos h23]; exact hq, rfl, rfl⟩⟩
                  | exact ⟨_, rfl, Or.inr ⟨_, _, by unfold pStat; rw [if_neg h14, if_neg h23, if_pos h32, if_pos hb, if_pos hk], rfl, rfl⟩⟩
                  | exact ⟨_, rfl, Or.inl ⟨_, by unfold pStat; rw [if_neg h14, if_neg h23, if_pos h32, if_pos hb, if_neg hk], rfl, _, rfl⟩⟩
                  | exact ⟨_, rfl, Or.inl ⟨_, by unfold pStat; rw [if_neg h14, if_neg h23, if_pos h32, if_neg hb], rfl, _, rfl⟩⟩
                  | exact ⟨_, rfl, Or.inr ⟨_, _, by unfold pStat; rw [if_neg h14, if_neg h23, if_neg h32, if_pos h41, hq]; exact hz, rfl, rfl⟩⟩
                  | exact ⟨_, rfl, Or.inl ⟨_, by unfold pStat; rw [if_neg h14, if_neg h23, if_neg h32, if_pos h41, hq]; exact hz, rfl, _, rfl⟩⟩
                  | exact ⟨_, rfl, Or.inl ⟨_, by unfold pStat; rw [if_neg h14, if_neg h23, if_neg h32, if_pos h41, hq], rfl, _, rfl⟩⟩
            · skip
              refine q_if_eq (n := 124) (t := 128) dX6_readStatement_121 rfl (by decide) (fun h121 => ?_) (fun h121 => ?_)
              · skip
                refine q_iconst (n := 129) dX6_readStatement_128 rfl (k := ?_)
                refine q_iret dX6_readStatement_129 rfl (fun _ => rfl) ?_
                first
                  | exact ⟨_, rfl, Or.inl ⟨_, by unfold pStat; rw [if_neg h14, if_neg h23, if_neg h32, if_neg h41], rfl, _, by rw [tp_st]⟩⟩
                  | exact ⟨_, rfl, Or.inr ⟨_, _, by unfold pStat; rw [if_pos h14, if_pos hb], rfl, rfl⟩⟩
                  | exact ⟨_, rfl, Or.inl ⟨_, by unfold pStat; rw [if_pos h14, if_neg hb], rfl, _, rfl⟩⟩
                  | exact ⟨_, rfl, Or.inl ⟨_, by unfold pStat; rw [if_neg h14, if_pos h23]; exact hq, rfl, _, rfl⟩⟩
                  | exact ⟨_, rfl, Or.inr ⟨_, _, by unfold pStat; rw [if_neg h14, if_pos h23]; exact hq, rfl, rfl⟩⟩
                  | exact ⟨_, rfl, Or.inr ⟨_, _, by unfold pStat; rw [if_neg h14, if_neg h23, if_pos h32, if_pos hb, if_pos hk], rfl, rfl⟩⟩
                  | exact ⟨_, rfl, Or.inl ⟨_, by unfold pStat; rw [if_neg h14, if_neg h23, if_pos h32, if_pos hb, if_neg hk], rfl, _, rfl⟩⟩
                  | exact ⟨_, rfl, Or.inl ⟨_, by unfold pStat; rw [if_neg h14, if_neg h23, if_pos h32, if_neg hb], rfl, _, rfl⟩⟩
                  | exact ⟨_, rfl, Or.inr ⟨_, _, by unfold pStat; rw [if_neg h14, if_neg h23, if_neg h32, if_pos h41, hq]; exact hz, rfl, rfl⟩⟩
                  | exact ⟨_, rfl, Or.inl ⟨_, by unfold pStat; rw [if_neg h14, if_neg h23, if_neg h32, if_pos h41, hq]; exact hz, rfl, _, rfl⟩⟩
                  | exact ⟨_, rfl, Or.inl ⟨_, by unfold pStat; rw [if_neg h14, if_neg h23, if_neg h32, if_pos h41, hq], rfl, _, rfl⟩⟩
              · exact absurd h121 (by decide)
        · skip
          refine q_if_eq (n := 117) (t := 128) dX6_readStatement_114 rfl (by decide) (fun h114 => ?_) (fun h114 => ?_)
          · skip
            refine q_iconst (n := 129) dX6_readStatement_128 rfl (k := ?_)
            refine q_iret dX6_readStatement_129 rfl (fun _ => rfl) ?_
            first
              | exact ⟨_, rfl, Or.inl ⟨_, by unfold pStat; rw [if_neg h14, if_neg h23, if_neg h32, if_neg h41], rfl, _, by rw [tp_st]⟩⟩
              | exact ⟨_, rfl, Or.inr ⟨_, _, by unfold pStat; rw [if_pos h14, if_pos hb], rfl, rfl⟩⟩
              | exact ⟨_, rfl, Or.inl ⟨_, by unfold pStat; rw [if_pos h14, if_neg hb], rfl, _, rfl⟩⟩
              | exact ⟨_, rfl, Or.inl ⟨_, by unfold pStat; rw [if_neg h14, if_pos h23]; exact hq, rfl, _, rfl⟩⟩
              | exact ⟨_, rfl, Or.inr ⟨_, _, by unfold pStat; rw [if_neg h14, if_pos h23]; exact hq, rfl, rfl⟩⟩
              | exact ⟨_, rfl, Or.inr ⟨_, _, by unfold pStat; rw [if_neg h14, if_neg h23, if_pos h32, if_pos hb, if_pos hk], rfl, rfl⟩⟩
              | exact ⟨_, rfl, Or.inl ⟨_, by unfold pStat; rw [if_neg h14, if_neg h23, if_pos h32, if_pos hb, if_neg hk], rfl, _, rfl⟩⟩
              | exact ⟨_, rfl, Or.inl ⟨_, by unfold pStat; rw [if_neg h14, if_neg h23, if_pos h32, if_neg hb], rfl, _, rfl⟩⟩
              | exact ⟨_, rfl, Or.inr ⟨_, _, by unfold pStat; rw [if_neg h14, if_neg h23, if_neg h32, if_pos h41, hq]; exact hz, rfl, rfl⟩⟩
              | exact ⟨_, rfl, Or.inl ⟨_, by unfold pStat; rw [if_neg h14, if_neg h23, if_neg h32, if_pos h41, hq]; exact hz, rfl, _, rfl⟩⟩
              | exact ⟨_, rfl, Or.inl ⟨_, by unfold pStat; rw [if_neg h14, if_neg h23, if_neg h32, if_pos h41, hq], rfl, _, rfl⟩⟩
          · exact absurd h114 (by decide)
      · skip
        refine q_aload_n (n := 36) dX6_readStatement_35 rfl rfl ?_
        refine q_getIE (tT σ pl) (kI := 3) (n := 39) (by decide) dX6_readStatement_36 rfl fX6_22 xi91 rfl rfl (by rw [tp_st]; rw [tp_o (by decide)]; exact q_up_s) ?_
        refine q_bipush (n := 41) dX6_readStatement_39 rfl (k := ?_)
        refine q_icmp_eq (n := 44) (t := 46) dX6_readStatement_41 rfl (by decide) (fun h41 => ?_) (fun h41 => ?_)
        · skip
          refine q_aload_n (n := 47) dX6_readStatement_46 rfl rfl ?_
          refine q_dup (n := 48) dX6_readStatement_47 rfl rfl ?_
          refine q_getIE (pl) (kI := 2) (n := 51) (by decide) dX6_readStatement_48 rfl fX6_19 xi91 rfl rfl (by rw [tp_st]; exact tp_pl) ?_
          refine q_iconst (n := 52) dX6_readStatement_51 rfl (k := ?_)
          refine q_iaddS (n := 53) dX6_readStatement_52 rfl ⟨by omega, by omega⟩ ?_
          refine q_putI (kI := 2) (n := 56) dX6_readStatement_53 rfl pX6_19 xi91 rfl rfl ?_
          rw [tp_st, tp_setpl]
          refine q_aload_n (n := 57) dX6_readStatement_56 rfl rfl ?_
          refine q_getIE (tT σ pl) (kI := 3) (n := 60) (by decide) dX6_readStatement_57 rfl fX6_22 xi91 rfl rfl (by rw [tp_o (by decide)]; exact q_up_s) ?_
          refine q_topI (118) h41 ?_
          refine q_lookup (off := 70) (t := 130) dX6_readStatement_60 (by decide) (by decide) (by decide) ?_
          refine q_aload_n (n := 131) dX6_readStatement_130 rfl rfl ?_
          refine q_iconst (n := 132) dX6_readStatement_131 rfl (k := ?_)
          refine q_v1 (n := 135) dX6_readStatement_132 rfl (zX6_readNumbers (q_up σ 91 3 (tT σ pl)) _ _ _ (by rw [q_up_n (by decide)]; exact hl) (by rw [q_up_n (by decide)]; omega) (by omega)) vX6_readNumbers lX6_45 rfl rfl xi91 rfl (fun v132 σ132 h132 => ?_)
          rw [tT_up (by decide), show Int.toNat 2 = 2 from rfl] at h132
          rcases h132 with ⟨q, hq, rfl, rd2, rfl⟩ | ⟨rd2, q, hq, rfl, rfl⟩
          · skip
            refine q_if_eq (n := 138) (t := 149) dX6_readStatement_135 rfl (by decide) (fun h135 => ?_) (fun h135 => ?_)
            · skip
              refine q_iconst (n := 150) dX6_readStatement_149 rfl (k := ?_)
              refine q_iret dX6_readStatement_150 rfl (fun _ => rfl) ?_
              first
                | exact ⟨_, rfl, Or.inl ⟨_, by unfold pStat; rw [if_neg h14, if_neg h23, if_neg h32, if_neg h41], rfl, _, by rw [tp_st]⟩⟩
                | exact ⟨_, rfl, Or.inr ⟨_, _, by unfold pStat; rw [if_pos h14, if_pos hb], rfl, rfl⟩⟩
                | exact ⟨_, rfl, Or.inl ⟨_, by unfold pStat; rw [if_pos h14, if_neg hb], rfl, _, rfl⟩⟩
                | exact ⟨_, rfl, Or.inl ⟨_, by unfold pStat; rw [if_neg h14, if_pos h23]; exact hq, rfl, _, rfl⟩⟩
                | exact ⟨_, rfl, Or.inr ⟨_, _, by unfold pStat; rw [if_neg h14, if_pos h23]; exact hq, rfl, rfl⟩⟩
                | exact ⟨_, rfl, Or.inr ⟨_, _, by unfold pStat; rw [if_neg h14, if_neg h23, if_pos h32, if_pos hb, if_pos hk], rfl, rfl⟩⟩
                | exact ⟨_, rfl, Or.inl ⟨_, by unfold pStat; rw [if_neg h14, if_neg h23, if_pos h32, if_pos hb, if_neg hk], rfl, _, rfl⟩⟩
                | exact ⟨_, rfl, Or.inl ⟨_, by unfold pStat; rw [if_neg h14, if_neg h23, if_pos h32, if_neg hb], rfl, _, rfl⟩⟩
                | exact ⟨_, rfl, Or.inr ⟨_, _, by unfold pStat; rw [if_neg h14, if_neg h23, if_neg h32, if_pos h41, hq]; exact hz, rfl, rfl⟩⟩
                | exact ⟨_, rfl, Or.inl ⟨_, by unfold pStat; rw [if_neg h14, if_neg h23, if_neg h32, if_pos h41, hq]; exact hz, rfl, _, rfl⟩⟩
                | exact ⟨_, rfl, Or.inl ⟨_, by unfold pStat; rw [if_neg h14, if_neg h23, if_neg h32, if_pos h41, hq], rfl, _, rfl⟩⟩
            · exact absurd h135 (by decide)
          · skip
            refine q_if_eq (n := 138) (t := 149) dX6_readStatement_135 rfl (by decide) (fun h135 => ?_) (fun h135 => ?_)
            · exact absurd h135 (by decide)
            · skip
              refine q_aload_n (n := 139) dX6_readStatement_138 rfl rfl ?_
              refine q_v0 (n := 142) dX6_readStatement_139 rfl (zX6_readTies (q_up σ 91 3 (tT σ pl)) _ _ (by rw [q_up_n (by decide)]; exact hl) (by rw [q_up_n (by decide)]; have := (pNums_in (σ := σ) 2 0 (pl + 1) rd (by omega)).2 _ _ hq; omega)) vX6_readTies lX6_51 rfl rfl xi91 rfl (fun v139 σ139 h139 => ?_)
              rw [tT_up (by decide)] at h139
              rcases h139 with ⟨q2, hz, rfl, rd3, rfl⟩ | ⟨rd3, q2, hz, rfl, rfl⟩
              · skip
                refine q_if_eq (n := 145) (t := 149) dX6_readStatement_142 rfl (by decide) (fun h142 => ?_) (fun h142 => ?_)
                · skip
                  refine q_iconst (n := 150) dX6_readStatement_149 rfl (k := ?_)
                  refine q_iret dX6_readStatement_150 rfl (fun _ => rfl) ?_
                  first
                    | exact ⟨_, rfl, Or.inl ⟨_, by unfold pStat; rw [if_neg h14, if_neg h23, if_neg h32, if_neg h41], rfl, _, by rw [tp_st]⟩⟩
                    | exact ⟨_, rfl, Or.inr ⟨_, _, by unfold pStat; rw [if_pos h14, if_pos hb], rfl, rfl⟩⟩
                    | exact ⟨_, rfl, Or.inl ⟨_, by unfold pStat; rw [if_pos h14, if_neg hb], rfl, _, rfl⟩⟩
                    | exact ⟨_, rfl, Or.inl ⟨_, by unfold pStat; rw [if_neg h14, if_pos h23]; exact hq, rfl, _, rfl⟩⟩
                    | exact ⟨_, rfl, Or.inr ⟨_, _, by unfold pStat; rw [if_neg h14, if_pos h23]; exact hq, rfl, rfl⟩⟩
                    | exact ⟨_, rfl, Or.inr ⟨_, _, by unfold pStat; rw [if_neg h14, if_neg h23, if_pos h32, if_pos hb, if_pos hk], rfl, rfl⟩⟩
                    | exact ⟨_, rfl, Or.inl ⟨_, by unfold pStat; rw [if_neg h14, if_neg h23, if_pos h32, if_pos hb, if_neg hk], rfl, _, rfl⟩⟩
                    | exact ⟨_, rfl, Or.inl ⟨_, by unfold pStat; rw [if_neg h14, if_neg h23, if_pos h32, if_neg hb], rfl, _, rfl⟩⟩
                    | exact ⟨_, rfl, Or.inr ⟨_, _, by unfold pStat; rw [if_neg h14, if_neg h23, if_neg h32, if_pos h41, hq]; exact hz, rfl, rfl⟩⟩
                    | exact ⟨_, rfl, Or.inl ⟨_, by unfold pStat; rw [if_neg h14, if_neg h23, if_neg h32, if_pos h41, hq]; exact hz, rfl, _, rfl⟩⟩
                    | exact ⟨_, rfl, Or.inl ⟨_, by unfold pStat; rw [if_neg h14, if_neg h23, if_neg h32, if_pos h41, hq], rfl, _, rfl⟩⟩
                · exact absurd h142 (by decide)
              · skip
                refine q_if_eq (n := 145) (t := 149) dX6_readStatement_142 rfl (by decide) (fun h142 => ?_) (fun h142 => ?_)
                · exact absurd h142 (by decide)
                · skip
                  refine q_iconst (n := 146) dX6_readStatement_145 rfl (k := ?_)
                  refine q_go (t := 150) dX6_readStatement_146 (by decide) ?_
                  refine q_iret dX6_readStatement_150 rfl (fun _ => rfl) ?_
                  first
                    | exact ⟨_, rfl, Or.inl ⟨_, by unfold pStat; rw [if_neg h14, if_neg h23, if_neg h32, if_neg h41], rfl, _, by rw [tp_st]⟩⟩
                    | exact ⟨_, rfl, Or.inr ⟨_, _, by unfold pStat; rw [if_pos h14, if_pos hb], rfl, rfl⟩⟩
                    | exact ⟨_, rfl, Or.inl ⟨_, by unfold pStat; rw [if_pos h14, if_neg hb], rfl, _, rfl⟩⟩
                    | exact ⟨_, rfl, Or.inl ⟨_, by unfold pStat; rw [if_neg h14, if_pos h23]; exact hq, rfl, _, rfl⟩⟩
                    | exact ⟨_, rfl, Or.inr ⟨_, _, by unfold pStat; rw [if_neg h14, if_pos h23]; exact hq, rfl, rfl⟩⟩
                    | exact ⟨_, rfl, Or.inr ⟨_, _, by unfold pStat; rw [if_neg h14, if_neg h23, if_pos h32, if_pos hb, if_pos hk], rfl, rfl⟩⟩
                    | exact ⟨_, rfl, Or.inl ⟨_, by unfold pStat; rw [if_neg h14, if_neg h23, if_pos h32, if_pos hb, if_neg hk], rfl, _, rfl⟩⟩
                    | exact ⟨_, rfl, Or.inl ⟨_, by unfold pStat; rw [if_neg h14, if_neg h23, if_pos h32, if_neg hb], rfl, _, rfl⟩⟩
                    | exact ⟨_, rfl, Or.inr ⟨_, _, by unfold pStat; rw [if_neg h14, if_neg h23, if_neg h32, if_pos h41, hq]; exact hz, rfl, rfl⟩⟩
                    | exact ⟨_, rfl, Or.inl ⟨_, by unfold pStat; rw [if_neg h14, if_neg h23, if_neg h32, if_pos h41, hq]; exact hz, rfl, _, rfl⟩⟩
                    | exact ⟨_, rfl, Or.inl ⟨_, by unfold pStat; rw [if_neg h14, if_neg h23, if_neg h32, if_pos h41, hq], rfl, _, rfl⟩⟩
        · skip
          refine q_iconst (n := 45) dX6_readStatement_44 rfl (k := ?_)
          refine q_iret dX6_readStatement_45 rfl (fun _ => rfl) ?_
          first
            | exact ⟨_, rfl, Or.inl ⟨_, by unfold pStat; rw [if_neg h14, if_neg h23, if_neg h32, if_neg h41], rfl, _, by rw [tp_st]⟩⟩
            | exact ⟨_, rfl, Or.inr ⟨_, _, by unfold pStat; rw [if_pos h14, if_pos hb], rfl, rfl⟩⟩
            | exact ⟨_, rfl, Or.inl ⟨_, by unfold pStat; rw [if_pos h14, if_neg hb], rfl, _, rfl⟩⟩
            | exact ⟨_, rfl, Or.inl ⟨_, by unfold pStat; rw [if_neg h14, if_pos h23]; exact hq, rfl, _, rfl⟩⟩
            | exact ⟨_, rfl, Or.inr ⟨_, _, by unfold pStat; rw [if_neg h14, if_pos h23]; exact hq, rfl, rfl⟩⟩
            | exact ⟨_, rfl, Or.inr ⟨_, _, by unfold pStat; rw [if_neg h14, if_neg h23, if_pos h32, if_pos hb, if_pos hk], rfl, rfl⟩⟩
            | exact ⟨_, rfl, Or.inl ⟨_, by unfold pStat; rw [if_neg h14, if_neg h23, if_pos h32, if_pos hb, if_neg hk], rfl, _, rfl⟩⟩
            | exact ⟨_, rfl, Or.inl ⟨_, by unfold pStat; rw [if_neg h14, if_neg h23, if_pos h32, if_neg hb], rfl, _, rfl⟩⟩
            | exact ⟨_, rfl, Or.inr ⟨_, _, by unfold pStat; rw [if_neg h14, if_neg h23, if_neg h32, if_pos h41, hq]; exact hz, rfl, rfl⟩⟩
            | exact ⟨_, rfl, Or.inl ⟨_, by unfold pStat; rw [if_neg h14, if_neg h23, if_neg h32, if_pos h41, hq]; exact hz, rfl, _, rfl⟩⟩
            | exact ⟨_, rfl, Or.inl ⟨_, by unfold pStat; rw [if_neg h14, if_neg h23, if_neg h32, if_pos h41, hq], rfl, _, rfl⟩⟩
set_option maxHeartbeats 1000000 in
set_option maxRecDepth 100000 in
theorem lpX6_fp (σ : q_S) (hl : 0 ≤ σ 91 1 ∧ σ 91 1 ≤ 120) (hby : ∀ k : Int, 0 ≤ k → k < σ 91 1 → 1 ≤ σ 92 k ∧ σ 92 k ≤ 127) : ∀ (n : Nat) (i pl s0 : Int) (rd : Int → Int), (n : Int) + i = 120 → 0 ≤ i → (0 ≤ pl ∧ pl ≤ σ 91 1) → q_WP mX6_faultPlace shX 7 [some (.inr (.inr 91)), some (.inl i)] [] (tp (q_up σ 91 3 s0) pl rd) (fun r σ' => ∃ v, r = some v ∧ (v = .inl (pAll (tT σ) (σ 91 1) n pl rd) ∧ ∃ s' pl' rd', σ' = tp (q_up σ 91 3 s') pl' rd')) := by
  intro n
  induction n with
  | zero =>
    intro i pl s0 rd hi h0 hp
    refine q_iload_n (n := 8) dX6_faultPlace_7 rfl rfl ?_
    refine q_bipush (n := 10) dX6_faultPlace_8 rfl (k := ?_)
    refine q_icmp_ge (n := 13) (t := 58) dX6_faultPlace_10 rfl (by decide) (fun h10 => ?_) (fun h10 => ?_)
    · skip
      refine q_aload_n (n := 59) dX6_faultPlace_58 rfl rfl ?_
      refine q_getIE (pl) (kI := 2) (n := 62) (by decide) dX6_faultPlace_59 rfl fX6_19 xi91 rfl rfl tp_pl ?_
      refine q_iret dX6_faultPlace_62 rfl (fun _ => rfl) ?_
      exact ⟨_, rfl, rfl, _, _, _, rfl⟩
    · exact absurd h10 (by omega)
  | succ n ih =>
    intro i pl s0 rd hi h0 hp
    refine q_iload_n (n := 8) dX6_faultPlace_7 rfl rfl ?_
    refine q_bipush (n := 10) dX6_faultPlace_8 rfl (k := ?_)
    refine q_icmp_ge (n := 13) (t := 58) dX6_faultPlace_10 rfl (by decide) (fun h10 => ?_) (fun h10 => ?_)
    · exact absurd h10 (by omega)
    · skip
      refine q_aload_n (n := 14) dX6_faultPlace_13 rfl rfl ?_
      refine q_v0 (n := 17) dX6_faultPlace_14 rfl (zX6_readStatement (q_up σ 91 3 s0) _ _ (by rw [q_up_n (by decide)]; exact hl) (by intro k h1 h2; rw [q_up_n (by decide)] at h2; rw [q_up_n (by omega)]; exact hby k h1 h2) (by rw [q_up_n (by decide)]; exact hp)) vX6_readStatement lX6_29 rfl rfl xi91 rfl (fun v14 σ14 h14 => ?_)
      rw [tT_up (by decide), up_up] at h14
      rcases h14 with ⟨q, hq, rfl, rd2, rfl⟩ | ⟨rd2, q, hq, rfl, rfl⟩
      · skip
        refine q_if_ne (n := 20) (t := 25) dX6_faultPlace_17 rfl (by decide) (fun h17 => ?_) (fun h17 => ?_)
        · exact absurd h17 (by decide)
        · skip
          refine q_aload_n (n := 21) dX6_faultPlace_20 rfl rfl ?_
          refine q_getIE (q) (kI := 2) (n := 24) (by decide) dX6_faultPlace_21 rfl fX6_19 xi91 rfl rfl tp_pl ?_
          refine q_iret dX6_faultPlace_24 rfl (fun _ => rfl) ?_
          refine ⟨_, rfl, ?_, _, _, _, rfl⟩
          first
            | (rw [pAll, hq]; done)
            | (rw [pAll, hq]; simp only [if_neg h33, if_neg ha]; done)
            | (rw [pAll, hq]; simp only [if_pos h33]; done)
      · skip
        refine q_if_ne (n := 20) (t := 25) dX6_faultPlace_17 rfl (by decide) (fun h17 => ?_) (fun h17 => ?_)
        · skip
          refine q_aload_n (n := 26) dX6_faultPlace_25 rfl rfl ?_
          refine q_getIE (q) (kI := 2) (n := 29) (by decide) dX6_faultPlace_26 rfl fX6_19 xi91 rfl rfl tp_pl ?_
          refine q_aload_n (n := 30) dX6_faultPlace_29 rfl rfl ?_
          refine q_getIE (σ 91 1) (kI := 1) (n := 33) (by decide) dX6_faultPlace_30 rfl fX6_15 xi91 rfl rfl (by rw [tp_o (by decide)]; exact q_up_n (by decide)) ?_
          refine q_icmp_ne (n := 36) (t := 38) dX6_faultPlace_33 rfl (by decide) (fun h33 => ?_) (fun h33 => ?_)
          · skip
            refine q_aload_n (n := 39) dX6_faultPlace_38 rfl rfl ?_
            refine q_bipush (n := 41) dX6_faultPlace_39 rfl (k := ?_)
            refine q_v1 (n := 44) dX6_faultPlace_41 rfl (zX6_accept (q_up σ 91 3 (tT σ pl)) _ _ _ (by rw [q_up_n (by decide)]; exact hl) (by have := (pStat_in (σ := σ) (rd := rd) hp).2 _ _ hq; omega)) vX6_accept lX6_33 rfl rfl xi91 rfl (fun v41 σ41 h41 => ?_)
            rw [tT_up (by decide)] at h41
            rcases h41 with ⟨ha, rfl, rfl⟩ | ⟨ha, rfl, rfl⟩
            · skip
              refine q_if_ne (n := 47) (t := 52) dX6_faultPlace_44 rfl (by decide) (fun h44 => ?_) (fun h44 => ?_)
              · skip
                refine q_iinc (n := 55) dX6_faultPlace_52 rfl (Nat.le_of_ble_eq_true rfl) rfl (q_nwid ⟨by omega, by omega⟩) (q_s1_1 rfl) ?_
                refine q_go (t := 7) dX6_faultPlace_55 (by decide) ?_
                have hqi := (pStat_in (σ := σ) (rd := rd) hp).2 _ _ hq
                have hql := tT_lt (σ := σ) (p := q)
                refine (ih _ _ _ _ (by omega) (by omega) (by omega)).imp ?_
                rintro r σ2 ⟨v, e, h1, h2⟩
                exact ⟨v, e, by rw [h1, pAll, hq]; simp only [if_neg h33, if_pos ha], h2⟩
              · exact absurd h44 (by decide)
            · skip
              refine q_if_ne (n := 47) (t := 52) dX6_faultPlace_44 rfl (by decide) (fun h44 => ?_) (fun h44 => ?_)
              · exact absurd h44 (by decide)
              · skip
                refine q_aload_n (n := 48) dX6_faultPlace_47 rfl rfl ?_
                refine q_getIE (q) (kI := 2) (n := 51) (by decide) dX6_faultPlace_48 rfl fX6_19 xi91 rfl rfl tp_pl ?_
                refine q_iret dX6_faultPlace_51 rfl (fun _ => rfl) ?_
                refine ⟨_, rfl, ?_, _, _, _, rfl⟩
                first
                  | (rw [pAll, hq]; done)
                  | (rw [pAll, hq]; simp only [if_neg h33, if_neg ha]; done)
                  | (rw [pAll, hq]; simp only [if_pos h33]; done)
          · skip
            refine q_iconst (n := 37) dX6_faultPlace_36 rfl (k := ?_)
            refine q_iret dX6_faultPlace_37 rfl (fun _ => rfl) ?_
            refine ⟨_, rfl, ?_, _, _, _, rfl⟩
            first
              | (rw [pAll, hq]; done)
              | (rw [pAll, hq]; simp only [if_neg h33, if_neg ha]; done)
              | (rw [pAll, hq]; simp only [if_pos h33]; done)
        · exact absurd h17 (by decide)
set_option maxRecDepth 100000 in
theorem zX6_faultPlace (σ : q_S) (pl : Int) (rd : Int → Int) (hl : 0 ≤ σ 91 1 ∧ σ 91 1 ≤ 120) (hby : ∀ k : Int, 0 ≤ k → k < σ 91 1 → 1 ≤ σ 92 k ∧ σ 92 k ≤ 127) (s0 : Int) : q_Ct mX6_faultPlace shX [.inr (.inr 91)] (tp σ pl rd) (fun r σ' => ∃ v, r = some v ∧ (v = .inl (pAll (tT σ) (σ 91 1) 120 0 rd) ∧ ∃ s' pl' rd', σ' = tp (q_up σ 91 3 s') pl' rd')) := by
  refine q_ct 1 (by decide) rfl rfl ?_
  show q_WP mX6_faultPlace shX 0 [some (.inr (.inr 91)), none] [] (tp σ pl rd) _
  refine q_aload_n (n := 1) dX6_faultPlace_0 rfl rfl ?_
  refine q_iconst (n := 2) dX6_faultPlace_1 rfl (k := ?_)
  refine q_putI (kI := 2) (n := 5) dX6_faultPlace_2 rfl pX6_19 xi91 rfl rfl ?_
  rw [tp_setpl]
  refine q_iconst (n := 6) dX6_faultPlace_5 rfl (k := ?_)
  refine q_istore_n (n := 7) dX6_faultPlace_6 rfl (Nat.le_of_ble_eq_true rfl) (q_s1_1 rfl) ?_
  refine q_cut _ _ (tp (q_up σ 91 3 (σ 91 3)) 0 rd) rfl rfl ?_ (lpX6_fp σ hl hby 120 0 0 (σ 91 3) rd (by decide) (by decide) (by omega))
  congr 1
  exact up_self.symm
