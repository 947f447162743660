set_option maxRecDepth 100000 in
theorem zX6_here (σ : q_S) (pl : Int) (rd : Int → Int) (hl : 0 ≤ σ 91 1 ∧ σ 91 1 ≤ 120) (hp : 0 ≤ pl ∧ pl ≤ 140) : q_Ct mX6_here shX [.inr (.inr 91)] (tp σ pl rd) (fun r σ' => r = some (.inl (tT σ pl)) ∧ σ' = tp σ pl rd) := by
  refine q_ct 0 (by decide) rfl rfl ?_
  show q_WP mX6_here shX 0 [some (.inr (.inr 91))] [] (tp σ pl rd) _
  refine q_aload_n (n := 1) dX6_here_0 rfl rfl ?_
  refine q_getIE (pl) (kI := 2) (n := 4) (by decide) dX6_here_1 rfl fX6_19 xi91 rfl rfl tp_pl ?_
  refine q_aload_n (n := 5) dX6_here_4 rfl rfl ?_
  refine q_getIE (σ 91 1) (kI := 1) (n := 8) (by decide) dX6_here_5 rfl fX6_15 xi91 rfl rfl (tp_o (by decide)) ?_
  refine q_icmp_ge (n := 11) (t := 23) dX6_here_8 rfl (by decide) (fun h8 => ?_) (fun h8 => ?_)
  · skip
    refine q_iconst (n := 24) dX6_here_23 rfl (k := ?_)
    refine q_iret dX6_here_24 rfl (fun _ => rfl) ?_
    unfold tT
    first
      | (rw [if_neg (by omega)]; exact ⟨rfl, rfl⟩)
      | (rw [if_pos (by omega)]; exact ⟨rfl, rfl⟩)
  · skip
    refine q_aload_n (n := 12) dX6_here_11 rfl rfl ?_
    refine q_getR (n := 15) dX6_here_12 rfl fX6_9 xi91 rfl ?_
    refine q_aload_n (n := 16) dX6_here_15 rfl rfl ?_
    refine q_getIE (pl) (kI := 2) (n := 19) (by decide) dX6_here_16 rfl fX6_19 xi91 rfl rfl tp_pl ?_
    refine q_baloadE (σ 92 pl) (n := 20) dX6_here_19 rfl xi92 ⟨by omega, by omega⟩ (tp_o (by omega)) ?_
    refine q_go (t := 24) dX6_here_20 (by decide) ?_
    refine q_iret dX6_here_24 rfl (fun _ => rfl) ?_
    unfold tT
    first
      | (rw [if_neg (by omega)]; exact ⟨rfl, rfl⟩)
      | (rw [if_pos (by omega)]; exact ⟨rfl, rfl⟩)
set_option maxRecDepth 100000 in
theorem zX6_accept (σ : q_S) (pl : Int) (rd : Int → Int) (ch : Int) (hl : 0 ≤ σ 91 1 ∧ σ 91 1 ≤ 120) (hp : 0 ≤ pl ∧ pl ≤ 140) : q_Ct mX6_accept shX [.inr (.inr 91), .inl ch] (tp σ pl rd) (fun r σ' => ∃ v, r = some v ∧ (tT σ pl = ch ∧ v = .inl 1 ∧ σ' = tp σ (pl + 1) rd ∨ tT σ pl ≠ ch ∧ v = .inl 0 ∧ σ' = tp σ pl rd)) := by
  refine q_ct 0 (by decide) rfl rfl ?_
  show q_WP mX6_accept shX 0 [some (.inr (.inr 91)), some (.inl ch)] [] (tp σ pl rd) _
  refine q_aload_n (n := 1) dX6_accept_0 rfl rfl ?_
  refine q_v0D (n := 4) dX6_accept_1 rfl (zX6_here σ _ _ hl (by omega)) vX6_here lX6_37 rfl rfl xi91 rfl ?_
  refine q_iload_n (n := 5) dX6_accept_4 rfl rfl ?_
  refine q_icmp_eq (n := 8) (t := 10) dX6_accept_5 rfl (by decide) (fun h5 => ?_) (fun h5 => ?_)
  · skip
    refine q_aload_n (n := 11) dX6_accept_10 rfl rfl ?_
    refine q_dup (n := 12) dX6_accept_11 rfl rfl ?_
    refine q_getIE (pl) (kI := 2) (n := 15) (by decide) dX6_accept_12 rfl fX6_19 xi91 rfl rfl tp_pl ?_
    refine q_iconst (n := 16) dX6_accept_15 rfl (k := ?_)
    refine q_iaddS (n := 17) dX6_accept_16 rfl ⟨by omega, by omega⟩ ?_
    refine q_putI (kI := 2) (n := 20) dX6_accept_17 rfl pX6_19 xi91 rfl rfl ?_
    refine q_iconst (n := 21) dX6_accept_20 rfl (k := ?_)
    refine q_iret dX6_accept_21 rfl (fun _ => rfl) ?_
    first
      | exact ⟨_, rfl, Or.inl ⟨h5, rfl, tp_setpl⟩⟩
      | exact ⟨_, rfl, Or.inr ⟨h5, rfl, rfl⟩⟩
  · skip
    refine q_iconst (n := 9) dX6_accept_8 rfl (k := ?_)
    refine q_iret dX6_accept_9 rfl (fun _ => rfl) ?_
    first
      | exact ⟨_, rfl, Or.inl ⟨h5, rfl, tp_setpl⟩⟩
      | exact ⟨_, rfl, Or.inr ⟨h5, rfl, rfl⟩⟩
set_option maxRecDepth 100000 in
theorem zX6_isFigureHere (σ : q_S) (pl : Int) (rd : Int → Int) (hl : 0 ≤ σ 91 1 ∧ σ 91 1 ≤ 120) (hp : 0 ≤ pl ∧ pl ≤ 140) : q_Ct mX6_isFigureHere shX [.inr (.inr 91)] (tp σ pl rd) (fun r σ' => r = some (.inl (if fig (tT σ) pl then 1 else 0)) ∧ σ' = tp σ pl rd) := by
  refine q_ct 0 (by decide) rfl rfl ?_
  show q_WP mX6_isFigureHere shX 0 [some (.inr (.inr 91))] [] (tp σ pl rd) _
  refine q_aload_n (n := 1) dX6_isFigureHere_0 rfl rfl ?_
  refine q_v0D (n := 4) dX6_isFigureHere_1 rfl (zX6_here σ _ _ hl (by omega)) vX6_here lX6_37 rfl rfl xi91 rfl ?_
  refine q_bipush (n := 6) dX6_isFigureHere_4 rfl (k := ?_)
  refine q_icmp_lt (n := 9) (t := 22) dX6_isFigureHere_6 rfl (by decide) (fun h6 => ?_) (fun h6 => ?_)
  · skip
    refine q_iconst (n := 23) dX6_isFigureHere_22 rfl (k := ?_)
    refine q_iret dX6_isFigureHere_23 rfl (fun _ => rfl) ?_
    first | exact ⟨q_lf1 (by omega), rfl⟩ | exact ⟨q_lf0 (by omega), rfl⟩
  · skip
    refine q_aload_n (n := 10) dX6_isFigureHere_9 rfl rfl ?_
    refine q_v0D (n := 13) dX6_isFigureHere_10 rfl (zX6_here σ _ _ hl (by omega)) vX6_here lX6_37 rfl rfl xi91 rfl ?_
    refine q_bipush (n := 15) dX6_isFigureHere_13 rfl (k := ?_)
    refine q_icmp_gt (n := 18) (t := 22) dX6_isFigureHere_15 rfl (by decide) (fun h15 => ?_) (fun h15 => ?_)
    · skip
      refine q_iconst (n := 23) dX6_isFigureHere_22 rfl (k := ?_)
      refine q_iret dX6_isFigureHere_23 rfl (fun _ => rfl) ?_
      first | exact ⟨q_lf1 (by omega), rfl⟩ | exact ⟨q_lf0 (by omega), rfl⟩
    · skip
      refine q_iconst (n := 19) dX6_isFigureHere_18 rfl (k := ?_)
      refine q_go (t := 23) dX6_isFigureHere_19 (by decide) ?_
      refine q_iret dX6_isFigureHere_23 rfl (fun _ => rfl) ?_
      first | exact ⟨q_lf1 (by omega), rfl⟩ | exact ⟨q_lf0 (by omega), rfl⟩
set_option maxRecDepth 100000 in
theorem zX6_readFigure (σ : q_S) (pl : Int) (rd : Int → Int) (t : Int) (hl : 0 ≤ σ 91 1 ∧ σ 91 1 ≤ 120) (hp : 0 ≤ pl ∧ pl ≤ 140) (ht : 0 ≤ t ∧ t < 6) : q_Ct mX6_readFigure shX [.inr (.inr 91), .inl t] (tp σ pl rd) (fun r σ' => ∃ v, r = some v ∧ (fig (tT σ) pl ∧ v = .inl 1 ∧ σ' = tp σ (pl + 1) (ud rd t (tT σ pl - 48)) ∨ ¬ fig (tT σ) pl ∧ v = .inl 0 ∧ σ' = tp σ pl rd)) := by
  refine q_ct 0 (by decide) rfl rfl ?_
  show q_WP mX6_readFigure shX 0 [some (.inr (.inr 91)), some (.inl t)] [] (tp σ pl rd) _
  refine q_aload_n (n := 1) dX6_readFigure_0 rfl rfl ?_
  refine q_v0D (n := 4) dX6_readFigure_1 rfl (zX6_isFigureHere σ _ _ hl (by omega)) vX6_isFigureHere lX6_54 rfl rfl xi91 rfl ?_
  refine q_if_ne (n := 7) (t := 9) dX6_readFigure_4 rfl (by decide) (fun h4 => ?_) (fun h4 => ?_)
  · have h4 := q_b1.mp h4
    refine q_aload_n (n := 10) dX6_readFigure_9 rfl rfl ?_
    refine q_getR (n := 13) dX6_readFigure_10 rfl fX6_25 xi91 rfl ?_
    refine q_iload_n (n := 14) dX6_readFigure_13 rfl rfl ?_
    refine q_aload_n (n := 15) dX6_readFigure_14 rfl rfl ?_
    refine q_v0D (n := 18) dX6_readFigure_15 rfl (zX6_here σ _ _ hl (by omega)) vX6_here lX6_37 rfl rfl xi91 rfl ?_
    refine q_bipush (n := 20) dX6_readFigure_18 rfl (k := ?_)
    refine q_isubS (n := 21) dX6_readFigure_20 rfl ⟨by omega, by omega⟩ ?_
    refine q_iastore (n := 22) dX6_readFigure_21 rfl xi93 ⟨by omega, by omega⟩ ?_
    refine q_aload_n (n := 23) dX6_readFigure_22 rfl rfl ?_
    refine q_dup (n := 24) dX6_readFigure_23 rfl rfl ?_
    refine q_getIE (pl) (kI := 2) (n := 27) (by decide) dX6_readFigure_24 rfl fX6_19 xi91 rfl rfl (by rw [tp_ud]; exact tp_pl) ?_
    refine q_iconst (n := 28) dX6_readFigure_27 rfl (k := ?_)
    refine q_iaddS (n := 29) dX6_readFigure_28 rfl ⟨by omega, by omega⟩ ?_
    refine q_putI (kI := 2) (n := 32) dX6_readFigure_29 rfl pX6_19 xi91 rfl rfl ?_
    refine q_iconst (n := 33) dX6_readFigure_32 rfl (k := ?_)
    refine q_iret dX6_readFigure_33 rfl (fun _ => rfl) ?_
    first
      | exact ⟨_, rfl, Or.inl ⟨h4, rfl, by rw [tp_ud, tp_setpl]⟩⟩
      | exact ⟨_, rfl, Or.inr ⟨h4, rfl, rfl⟩⟩
  · have h4 := q_b0.mp h4
    refine q_iconst (n := 8) dX6_readFigure_7 rfl (k := ?_)
    refine q_iret dX6_readFigure_8 rfl (fun _ => rfl) ?_
    first
      | exact ⟨_, rfl, Or.inl ⟨h4, rfl, by rw [tp_ud, tp_setpl]⟩⟩
      | exact ⟨_, rfl, Or.inr ⟨h4, rfl, rfl⟩⟩
set_option maxRecDepth 100000 in
theorem zX6_readNumber (σ : q_S) (pl : Int) (rd : Int → Int) (t : Int) (hl : 0 ≤ σ 91 1 ∧ σ 91 1 ≤ 120) (hp : 0 ≤ pl ∧ pl ≤ σ 91 1) (ht : 0 ≤ t ∧ t < 6) : q_Ct mX6_readNumber shX [.inr (.inr 91), .inl t] (tp σ pl rd) (fun r σ' => ∃ v, r = some v ∧ ((∃ q, pNum (tT σ) pl = .inl q ∧ v = .inl 0 ∧ ∃ rd', σ' = tp σ q rd') ∨ (∃ x q, pNum (tT σ) pl = .inr (x, q) ∧ v = .inl 1 ∧ σ' = tp σ q (ud rd t x)))) := by
  refine q_ct 2 (by decide) rfl rfl ?_
  show q_WP mX6_readNumber shX 0 [some (.inr (.inr 91)), some (.inl t), none, none] [] (tp σ pl rd) _
  refine q_aload_n (n := 1) dX6_readNumber_0 rfl rfl ?_
  refine q_bipush (n := 3) dX6_readNumber_1 rfl (k := ?_)
  refine q_v1 (n := 6) dX6_readNumber_3 rfl (zX6_accept σ _ _ _ hl (by omega)) vX6_accept lX6_33 rfl rfl xi91 rfl (fun v3 σ3 h3 => ?_)
  rcases h3 with ⟨ha, rfl, rfl⟩ | ⟨ha, rfl, rfl⟩
  · skip
    refine q_if_eq (n := 9) (t := 13) dX6_readNumber_6 rfl (by decide) (fun h6 => ?_) (fun h6 => ?_)
    · exact absurd h6 (by decide)
    · skip
      refine q_iconst (n := 10) dX6_readNumber_9 rfl (k := ?_)
      refine q_go (t := 14) dX6_readNumber_10 (by decide) ?_
      refine q_istore_n (n := 15) dX6_readNumber_14 rfl (Nat.le_of_ble_eq_true rfl) (q_s1_s (q_s1_1 rfl)) ?_
      refine q_aload_n (n := 16) dX6_readNumber_15 rfl rfl ?_
      refine q_iload_n (n := 17) dX6_readNumber_16 rfl rfl ?_
      refine q_v1 (n := 20) dX6_readNumber_17 rfl (zX6_readFigure σ _ _ _ hl (by omega) (by omega)) vX6_readFigure lX6_41 rfl rfl xi91 rfl (fun v17 σ17 h17 => ?_)
      rcases h17 with ⟨hb, rfl, rfl⟩ | ⟨hb, rfl, rfl⟩
      · skip
        refine q_if_ne (n := 23) (t := 25) dX6_readNumber_20 rfl (by decide) (fun h20 => ?_) (fun h20 => ?_)
        · skip
          refine q_aload_n (n := 26) dX6_readNumber_25 rfl rfl ?_
          refine q_getR (n := 29) dX6_readNumber_26 rfl fX6_25 xi91 rfl ?_
          refine q_iload_n (n := 30) dX6_readNumber_29 rfl rfl ?_
          refine q_iaload (n := 31) dX6_readNumber_30 rfl xi93 ⟨by omega, by omega⟩ ?_
          rw [tp_rd, ud_s]
          refine q_istore_n (n := 32) dX6_readNumber_31 rfl (Nat.le_of_ble_eq_true rfl) (q_s1_s (q_s1_s (q_s1_1 rfl))) ?_
          refine q_aload_n (n := 33) dX6_readNumber_32 rfl rfl ?_
          refine q_iload_n (n := 34) dX6_readNumber_33 rfl rfl ?_
          refine q_v1 (n := 37) dX6_readNumber_34 rfl (zX6_readFigure σ _ _ _ hl (by omega) (by omega)) vX6_readFigure lX6_41 rfl rfl xi91 rfl (fun v34 σ34 h34 => ?_)
          rcases h34 with ⟨hc, rfl, rfl⟩ | ⟨hc, rfl, rfl⟩
          · skip
            refine q_if_eq (n := 40) (t := 52) dX6_readNumber_37 rfl (by decide) (fun h37 => ?_) (fun h37 => ?_)
            · exact absurd h37 (by decide)
            · skip
              refine q_bipush (n := 42) dX6_readNumber_40 rfl (k := ?_)
              refine q_iload_n (n := 43) dX6_readNumber_42 rfl rfl ?_
              refine q_imulS (n := 44) dX6_readNumber_43 rfl ⟨by omega, by omega⟩ ?_
              refine q_aload_n (n := 45) dX6_readNumber_44 rfl rfl ?_
              refine q_getR (n := 48) dX6_readNumber_45 rfl fX6_25 xi91 rfl ?_
              refine q_iload_n (n := 49) dX6_readNumber_48 rfl rfl ?_
              refine q_iaload (n := 50) dX6_readNumber_49 rfl xi93 ⟨by omega, by omega⟩ ?_
              rw [tp_rd, ud_s]
              refine q_iaddS (n := 51) dX6_readNumber_50 rfl ⟨by omega, by omega⟩ ?_
              refine q_istore_n (n := 52) dX6_readNumber_51 rfl (Nat.le_of_ble_eq_true rfl) (q_s1_s (q_s1_s (q_s1_1 rfl))) ?_
              refine q_aload_n (n := 53) dX6_readNumber_52 rfl rfl ?_
              refine q_getR (n := 56) dX6_readNumber_53 rfl fX6_25 xi91 rfl ?_
              refine q_iload_n (n := 57) dX6_readNumber_56 rfl rfl ?_
              refine q_iload_n (n := 58) dX6_readNumber_57 rfl rfl ?_
              refine q_iload_n (n := 59) dX6_readNumber_58 rfl rfl ?_
              refine q_imulS (n := 60) dX6_readNumber_59 rfl ⟨by omega, by omega⟩ ?_
              refine q_iastore (n := 61) dX6_readNumber_60 rfl xi93 ⟨by omega, by omega⟩ ?_
              refine q_iconst (n := 62) dX6_readNumber_61 rfl (k := ?_)
              refine q_iret dX6_readNumber_62 rfl (fun _ => rfl) ?_
              have hlt := tT_lt (σ := σ) (p := pl)
              first
                | exact ⟨_, rfl, Or.inl ⟨_, by unfold pNum; rw [if_pos ha, if_neg hb], rfl, _, rfl⟩⟩
                | exact ⟨_, rfl, Or.inl ⟨_, by unfold pNum; rw [if_neg ha, if_neg hb], rfl, _, rfl⟩⟩
                | exact ⟨_, rfl, Or.inr ⟨_, _, by unfold pNum; rw [if_pos ha, if_pos hb, if_pos hc], rfl, by rw [tp_ud, ud_ud, ud_ud]⟩⟩
                | exact ⟨_, rfl, Or.inr ⟨_, _, by unfold pNum; rw [if_pos ha, if_pos hb, if_neg hc], rfl, by rw [tp_ud, ud_ud]⟩⟩
                | exact ⟨_, rfl, Or.inr ⟨_, _, by unfold pNum; rw [if_neg ha, if_pos hb, if_pos hc], rfl, by rw [tp_ud, ud_ud, ud_ud]⟩⟩
                | exact ⟨_, rfl, Or.inr ⟨_, _, by unfold pNum; rw [if_neg ha, if_pos hb, if_neg hc], rfl, by rw [tp_ud, ud_ud]⟩⟩
          · skip
            refine q_if_eq (n := 40) (t := 52) dX6_readNumber_37 rfl (by decide) (fun h37 => ?_) (fun h37 => ?_)
            · skip
              refine q_aload_n (n := 53) dX6_readNumber_52 rfl rfl ?_
              refine q_getR (n := 56) dX6_readNumber_53 rfl fX6_25 xi91 rfl ?_
              refine q_iload_n (n := 57) dX6_readNumber_56 rfl rfl ?_
              refine q_iload_n (n := 58) dX6_readNumber_57 rfl rfl ?_
              refine q_iload_n (n := 59) dX6_readNumber_58 rfl rfl ?_
              refine q_imulS (n := 60) dX6_readNumber_59 rfl ⟨by omega, by omega⟩ ?_
              refine q_iastore (n := 61) dX6_readNumber_60 rfl xi93 ⟨by omega, by omega⟩ ?_
              refine q_iconst (n := 62) dX6_readNumber_61 rfl (k := ?_)
              refine q_iret dX6_readNumber_62 rfl (fun _ => rfl) ?_
              have hlt := tT_lt (σ := σ) (p := pl)
              first
                | exact ⟨_, rfl, Or.inl ⟨_, by unfold pNum; rw [if_pos ha, if_neg hb], rfl, _, rfl⟩⟩
                | exact ⟨_, rfl, Or.inl ⟨_, by unfold pNum; rw [if_neg ha, if_neg hb], rfl, _, rfl⟩⟩
                | exact ⟨_, rfl, Or.inr ⟨_, _, by unfold pNum; rw [if_pos ha, if_pos hb, if_pos hc], rfl, by rw [tp_ud, ud_ud, ud_ud]⟩⟩
                | exact ⟨_, rfl, Or.inr ⟨_, _, by unfold pNum; rw [if_pos ha, if_pos hb, if_neg hc], rfl, by rw [tp_ud, ud_ud]⟩⟩
                | exact ⟨_, rfl, Or.inr ⟨_, _, by unfold pNum; rw [if_neg ha, if_pos hb, if_pos hc], rfl, by rw [tp_ud, ud_ud, ud_ud]⟩⟩
                | exact ⟨_, rfl, Or.inr ⟨_, _, by unfold pNum; rw [if_neg ha, if_pos hb, if_neg hc], rfl, by rw [tp_ud, ud_ud]⟩⟩
            · exact absurd h37 (by decide)
        · exact absurd h20 (by decide)
      · skip
        refine q_if_ne (n := 23) (t := 25) dX6_readNumber_20 rfl (by decide) (fun h20 => ?_) (fun h20 => ?_)
        · exact absurd h20 (by decide)
        · skip
          refine q_iconst (n := 24) dX6_readNumber_23 rfl (k := ?_)
          refine q_iret dX6_readNumber_24 rfl (fun _ => rfl) ?_
          have hlt := tT_lt (σ := σ) (p := pl)
          first
            | exact ⟨_, rfl, Or.inl ⟨_, by unfold pNum; rw [if_pos ha, if_neg hb], rfl, _, rfl⟩⟩
            | exact ⟨_, rfl, Or.inl ⟨_, by unfold pNum; rw [if_neg ha, if_neg hb], rfl, _, rfl⟩⟩
            | exact ⟨_, rfl, Or.inr ⟨_, _, by unfold pNum; rw [if_pos ha, if_pos hb, if_pos hc], rfl, by rw [tp_ud, ud_ud, ud_ud]⟩⟩
            | exact ⟨_, rfl, Or.inr ⟨_, _, by unfold pNum; rw [if_pos ha, if_pos hb, if_neg hc], rfl, by rw [tp_ud, ud_ud]⟩⟩
            | exact ⟨_, rfl, Or.inr ⟨_, _, by unfold pNum; rw [if_neg ha, if_pos hb, if_pos hc], rfl, by rw [tp_ud, ud_ud, ud_ud]⟩⟩
            | exact ⟨_, rfl, Or.inr ⟨_, _, by unfold pNum; rw [if_neg ha, if_pos hb, if_neg hc], rfl, by rw [tp_ud, ud_ud]⟩⟩
  · skip
    refine q_if_eq (n := 9) (t := 13) dX6_readNumber_6 rfl (by decide) (fun h6 => ?_) (fun h6 => ?_)
    · skip
      refine q_iconst (n := 14) dX6_readNumber_13 rfl (k := ?_)
      refine q_istore_n (n := 15) dX6_readNumber_14 rfl (Nat.le_of_ble_eq_true rfl) (q_s1_s (q_s1_1 rfl)) ?_
      refine q_aload_n (n := 16) dX6_readNumber_15 rfl rfl ?_
      refine q_iload_n (n := 17) dX6_readNumber_16 rfl rfl ?_
      refine q_v1 (n := 20) dX6_readNumber_17 rfl (zX6_readFigure σ _ _ _ hl (by omega) (by omega)) vX6_readFigure lX6_41 rfl rfl xi91 rfl (fun v17 σ17 h17 => ?_)
      rcases h17 with ⟨hb, rfl, rfl⟩ | ⟨hb, rfl, rfl⟩
      · skip
        refine q_if_ne (n := 23) (t := 25) dX6_readNumber_20 rfl (by decide) (fun h20 => ?_) (fun h20 => ?_)
        · skip
          refine q_aload_n (n := 26) dX6_readNumber_25 rfl rfl ?_
          refine q_getR (n := 29) dX6_readNumber_26 rfl fX6_25 xi91 rfl ?_
          refine q_iload_n (n := 30) dX6_readNumber_29 rfl rfl ?_
          refine q_iaload (n := 31) dX6_readNumber_30 rfl xi93 ⟨by omega, by omega⟩ ?_
          rw [tp_rd, ud_s]
          refine q_istore_n (n := 32) dX6_readNumber_31 rfl (Nat.le_of_ble_eq_true rfl) (q_s1_s (q_s1_s (q_s1_1 rfl))) ?_
          refine q_aload_n (n := 33) dX6_readNumber_32 rfl rfl ?_
          refine q_iload_n (n := 34) dX6_readNumber_33 rfl rfl ?_
          refine q_v1 (n := 37) dX6_readNumber_34 rfl (zX6_readFigure σ _ _ _ hl (by omega) (by omega)) vX6_readFigure lX6_41 rfl rfl xi91 rfl (fun v34 σ34 h34 => ?_)
          rcases h34 with ⟨hc, rfl, rfl⟩ | ⟨hc, rfl, rfl⟩
          · skip
            refine q_if_eq (n := 40) (t := 52) dX6_readNumber_37 rfl (by decide) (fun h37 => ?_) (fun h37 => ?_)
            · exact absurd h37 (by decide)
            · skip
              refine q_bipush (n := 42) dX6_readNumber_40 rfl (k := ?_)
              refine q_iload_n (n := 43) dX6_readNumber_42 rfl rfl ?_
              refine q_imulS (n := 44) dX6_readNumber_43 rfl ⟨by omega, by omega⟩ ?_
              refine q_aload_n (n := 45) dX6_readNumber_44 rfl rfl ?_
              refine q_getR (n := 48) dX6_readNumber_45 rfl fX6_25 xi91 rfl ?_
              refine q_iload_n (n := 49) dX6_readNumber_48 rfl rfl ?_
              refine q_iaload (n := 50) dX6_readNumber_49 rfl xi93 ⟨by omega, by omega⟩ ?_
              rw [tp_rd, ud_s]
              refine q_iaddS (n := 51) dX6_readNumber_50 rfl ⟨by omega, by omega⟩ ?_
              refine q_istore_n (n := 52) dX6_readNumber_51 rfl (Nat.le_of_ble_eq_true rfl) (q_s1_s (q_s1_s (q_s1_1 rfl))) ?_
              refine q_aload_n (n := 53) dX6_readNumber_52 rfl rfl ?_
              refine q_getR (n := 56) dX6_readNumber_53 rfl fX6_25 xi91 rfl ?_
              refine q_iload_n (n := 57) dX6_readNumber_56 rfl rfl ?_
              refine q_iload_n (n := 58) dX6_readNumber_57 rfl rfl ?_
              refine q_iload_n (n := 59) dX6_readNumber_58 rfl rfl ?_
              refine q_imulS (n := 60) dX6_readNumber_59 rfl ⟨by omega, by omega⟩ ?_
              refine q_iastore (n := 61) dX6_readNumber_60 rfl xi93 ⟨by omega, by omega⟩ ?_
              refine q_iconst (n := 62) dX6_readNumber_61 rfl (k := ?_)
              refine q_iret dX6_readNumber_62 rfl (fun _ => rfl) ?_
              have hlt := tT_lt (σ := σ) (p := pl)
              first
                | exact ⟨_, rfl, Or.inl ⟨_, by unfold pNum; rw [if_pos ha, if_neg hb], rfl, _, rfl⟩⟩
                | exact ⟨_, rfl, Or.inl ⟨_, by unfold pNum; rw [if_neg ha, if_neg hb], rfl, _, rfl⟩⟩
                | exact ⟨_, rfl, Or.inr ⟨_, _, by unfold pNum; rw [if_pos ha, if_pos hb, if_pos hc], rfl, by rw [tp_ud, ud_ud, ud_ud]⟩⟩
                | exact ⟨_, rfl, Or.inr ⟨_, _, by unfold pNum; rw [if_pos ha, if_pos hb, if_neg hc], rfl, by rw [tp_ud, ud_ud]⟩⟩
                | exact ⟨_, rfl, Or.inr ⟨_, _, by unfold pNum; rw [if_neg ha, if_pos hb, if_pos hc], rfl, by rw [tp_ud, ud_ud, ud_ud]⟩⟩
                | exact ⟨_, rfl, Or.inr ⟨_, _, by unfold pNum; rw [if_neg ha, if_pos hb, if_neg hc], rfl, by rw [tp_ud, ud_ud]⟩⟩
          · skip
            refine q_if_eq (n := 40) (t := 52) dX6_readNumber_37 rfl (by decide) (fun h37 => ?_) (fun h37 => ?_)
            · skip
              refine q_aload_n (n := 53) dX6_readNumber_52 rfl rfl ?_
              refine q_getR (n := 56) dX6_readNumber_53 rfl fX6_25 xi91 rfl ?_
              refine q_iload_n (n := 57) dX6_readNumber_56 rfl rfl ?_
              refine q_iload_n (n := 58) dX6_readNumber_57 rfl rfl ?_
              refine q_iload_n (n := 59) dX6_readNumber_58 rfl rfl ?_
              refine q_imulS (n := 60) dX6_readNumber_59 rfl ⟨by omega, by omega⟩ ?_
              refine q_iastore (n := 61) dX6_readNumber_60 rfl xi93 ⟨by omega, by omega⟩ ?_
              refine q_iconst (n := 62) dX6_readNumber_61 rfl (k := ?_)
              refine q_iret dX6_readNumber_62 rfl (fun _ => rfl) ?_
              have hlt := tT_lt (σ := σ) (p := pl)
              first
                | exact ⟨_, rfl, Or.inl ⟨_, by unfold pNum; rw [if_pos ha, if_neg hb], rfl, _, rfl⟩⟩
                | exact ⟨_, rfl, Or.inl ⟨_, by unfold pNum; rw [if_neg ha, if_neg hb], rfl, _, rfl⟩⟩
                | exact ⟨_, rfl, Or.inr ⟨_, _, by unfold pNum; rw [if_pos ha, if_pos hb, if_pos hc], rfl, by rw [tp_ud, ud_ud, ud_ud]⟩⟩
                | exact ⟨_, rfl, Or.inr ⟨_, _, by unfold pNum; rw [if_pos ha, if_pos hb, if_neg hc], rfl, by rw [tp_ud, ud_ud]⟩⟩
                | exact ⟨_, rfl, Or.inr ⟨_, _, by unfold pNum; rw [if_neg ha, if_pos hb, if_pos hc], rfl, by rw [tp_ud, ud_ud, ud_ud]⟩⟩
                | exact ⟨_, rfl, Or.inr ⟨_, _, by unfold pNum; rw [if_neg ha, if_pos hb, if_neg hc], rfl, by rw [tp_ud, ud_ud]⟩⟩
            · exact absurd h37 (by decide)
        · exact absurd h20 (by decide)
      · skip
        refine q_if_ne (n := 23) (t := 25) dX6_readNumber_20 rfl (by decide) (fun h20 => ?_) (fun h20 => ?_)
        · exact absurd h20 (by decide)
        · skip
          refine q_iconst (n := 24) dX6_readNumber_23 rfl (k := ?_)
          refine q_iret dX6_readNumber_24 rfl (fun _ => rfl) ?_
          have hlt := tT_lt (σ := σ) (p := pl)
          first
            | exact ⟨_, rfl, Or.inl ⟨_, by unfold pNum; rw [if_pos ha, if_neg hb], rfl, _, rfl⟩⟩
            | exact ⟨_, rfl, Or.inl ⟨_, by unfold pNum; rw [if_neg ha, if_neg hb], rfl, _, rfl⟩⟩
            | exact ⟨_, rfl, Or.inr ⟨_, _, by unfold pNum; rw [if_pos ha, if_pos hb, if_pos hc], rfl, by rw [tp_ud, ud_ud, ud_ud]⟩⟩
            | exact ⟨_, rfl, Or.inr ⟨_, _, by unfold pNum; rw [if_pos ha, if_pos hb, if_neg hc], rfl, by rw [tp_ud, ud_ud]⟩⟩
            | exact ⟨_, rfl, Or.inr ⟨_, _, by unfold pNum; rw [if_neg ha, if_pos hb, if_pos hc], rfl, by rw [tp_ud, ud_ud, ud_ud]⟩⟩
            | exact ⟨_, rfl, Or.inr ⟨_, _, by unfold pNum; rw [if_neg ha, if_pos hb, if_neg hc], rfl, by rw [tp_ud, ud_ud]⟩⟩
    · exact absurd h6 (by decide)
theorem pNum_in {σ : q_S} {pl x q : Int} (hp : 0 ≤ pl ∧ pl ≤ σ 91 1) : (pNum (tT σ) pl = .inl q → pl ≤ q ∧ q ≤ σ 91 1) ∧ (pNum (tT σ) pl = .inr (x, q) → (pl < q ∧ q ≤ σ 91 1) ∧ q_bd x 99) := by
  have h0 := tT_lt (σ := σ) (p := pl)
  have h1 := tT_lt (σ := σ) (p := pl + 1)
  have h2 := tT_lt (σ := σ) (p := pl + 1 + 1)
  unfold pNum fig q_bd
  constructor
  · intro h
    repeat' split at h
    all_goals first | (cases h; done) | (simp only [Sum.inl.injEq, reduceCtorEq] at h; omega)
  · intro h
    repeat' split at h
    all_goals first | (cases h; done) | (simp only [Sum.inr.injEq, Prod.mk.injEq, reduceCtorEq] at h; omega)
set_option maxRecDepth 100000 in
theorem lpX6_rn (σ : q_S) (N : Int) (hN : N ≤ 6) (hl : 0 ≤ σ 91 1 ∧ σ 91 1 ≤ 120) : ∀ (n : Nat) (i pl : Int) (rd : Int → Int), (n : Int) + i = N → 0 ≤ i → (0 ≤ pl ∧ pl ≤ σ 91 1) → q_WP mX6_readNumbers shX 2 [some (.inr (.inr 91)), some (.inl N), some (.inl i)] [] (tp σ pl rd) (fun r σ' => ∃ v, r = some v ∧ ((∃ q, pNums (tT σ) n i pl rd = .inl q ∧ v = .inl 0 ∧ ∃ rd', σ' = tp σ q rd') ∨ (∃ rd' q, pNums (tT σ) n i pl rd = .inr (rd', q) ∧ v = .inl 1 ∧ σ' = tp σ q rd'))) := by
  intro n
  induction n with
  | zero =>
    intro i pl rd hi h0 hp
    refine q_iload_n (n := 3) dX6_readNumbers_2 rfl rfl ?_
    refine q_iload_n (n := 4) dX6_readNumbers_3 rfl rfl ?_
    refine q_icmp_ge (n := 7) (t := 36) dX6_readNumbers_4 rfl (by decide) (fun h4 => ?_) (fun h4 => ?_)
    · skip
      refine q_iconst (n := 37) dX6_readNumbers_36 rfl (k := ?_)
      refine q_iret dX6_readNumbers_37 rfl (fun _ => rfl) ?_
      exact ⟨_, rfl, Or.inr ⟨_, _, rfl, rfl, rfl⟩⟩
    · exact absurd h4 (by omega)
  | succ n ih =>
    intro i pl rd hi h0 hp
    have hlt := tT_lt (σ := σ) (p := pl)
    refine q_iload_n (n := 3) dX6_readNumbers_2 rfl rfl ?_
    refine q_iload_n (n := 4) dX6_readNumbers_3 rfl rfl ?_
    refine q_icmp_ge (n := 7) (t := 36) dX6_readNumbers_4 rfl (by decide) (fun h4 => ?_) (fun h4 => ?_)
    · exact absurd h4 (by omega)
    · skip
      refine q_iload_n (n := 8) dX6_readNumbers_7 rfl rfl ?_
      refine q_if_le (n := 11) (t := 20) dX6_readNumbers_8 rfl (by decide) (fun h8 => ?_) (fun h8 => ?_)
      · skip
        refine q_aload_n (n := 21) dX6_readNumbers_20 rfl rfl ?_
        refine q_iload_n (n := 22) dX6_readNumbers_21 rfl rfl ?_
        refine q_v1 (n := 25) dX6_readNumbers_22 rfl (zX6_readNumber σ _ _ _ hl (by omega) (by omega)) vX6_readNumber lX6_57 rfl rfl xi91 rfl (fun v22 σ22 h22 => ?_)
        rcases h22 with ⟨q, hq, rfl, rd2, rfl⟩ | ⟨x, q, hq, rfl, rfl⟩
        · skip
          refine q_if_ne (n := 28) (t := 30) dX6_readNumbers_25 rfl (by decide) (fun h25 => ?_) (fun h25 => ?_)
          · exact absurd h25 (by decide)
          · skip
            refine q_iconst (n := 29) dX6_readNumbers_28 rfl (k := ?_)
            refine q_iret dX6_readNumbers_29 rfl (fun _ => rfl) ?_
            first
              | exact ⟨_, rfl, Or.inl ⟨q, by rw [pNums, if_pos (by omega), hq], rfl, _, rfl⟩⟩
              | exact ⟨_, rfl, Or.inl ⟨q, by rw [pNums, if_neg (by omega), if_pos ha, hq], rfl, _, rfl⟩⟩
              | exact ⟨_, rfl, Or.inl ⟨_, by rw [pNums, if_neg (by omega), if_neg ha], rfl, _, rfl⟩⟩
        · skip
          refine q_if_ne (n := 28) (t := 30) dX6_readNumbers_25 rfl (by decide) (fun h25 => ?_) (fun h25 => ?_)
          · skip
            refine q_iinc (n := 33) dX6_readNumbers_30 rfl (Nat.le_of_ble_eq_true rfl) rfl (q_nwid ⟨by omega, by omega⟩) (q_s1_s (q_s1_1 rfl)) ?_
            refine q_go (t := 2) dX6_readNumbers_33 (by decide) ?_
            have hqi := (pNum_in (σ := σ) (x := x) (q := q) (by omega)).2 hq
            refine (ih _ _ _ (by omega) (by omega) (by omega)).imp ?_
            rintro r σ2 ⟨v, e, ⟨q2, h1, h2, h3⟩ | ⟨rd2, q2, h1, h2, h3⟩⟩
            · exact ⟨v, e, Or.inl ⟨q2, by rw [pNums]; first | (rw [if_pos (by omega), hq]; exact h1) | (rw [if_neg (by omega), if_pos ha, hq]; exact h1), h2, h3⟩⟩
            · exact ⟨v, e, Or.inr ⟨rd2, q2, by rw [pNums]; first | (rw [if_pos (by omega), hq]; exact h1) | (rw [if_neg (by omega), if_pos ha, hq]; exact h1), h2, h3⟩⟩
          · exact absurd h25 (by decide)
      · skip
        refine q_aload_n (n := 12) dX6_readNumbers_11 rfl rfl ?_
        refine q_bipush (n := 14) dX6_readNumbers_12 rfl (k := ?_)
        refine q_v1 (n := 17) dX6_readNumbers_14 rfl (zX6_accept σ _ _ _ hl (by omega)) vX6_accept lX6_33 rfl rfl xi91 rfl (fun v14 σ14 h14 => ?_)
        rcases h14 with ⟨ha, rfl, rfl⟩ | ⟨ha, rfl, rfl⟩
        · skip
          refine q_if_eq (n := 20) (t := 28) dX6_readNumbers_17 rfl (by decide) (fun h17 => ?_) (fun h17 => ?_)
          · exact absurd h17 (by decide)
          · skip
            refine q_aload_n (n := 21) dX6_readNumbers_20 rfl rfl ?_
            refine q_iload_n (n := 22) dX6_readNumbers_21 rfl rfl ?_
            refine q_v1 (n := 25) dX6_readNumbers_22 rfl (zX6_readNumber σ _ _ _ hl (by omega) (by omega)) vX6_readNumber lX6_57 rfl rfl xi91 rfl (fun v22 σ22 h22 => ?_)
            rcases h22 with ⟨q, hq, rfl, rd2, rfl⟩ | ⟨x, q, hq, rfl, rfl⟩
            · skip
              refine q_if_ne (n := 28) (t := 30) dX6_readNumbers_25 rfl (by decide) (fun h25 => ?_) (fun h25 => ?_)
              · exact absurd h25 (by decide)
              · skip
                refine q_iconst (n := 29) dX6_readNumbers_28 rfl (k := ?_)
                refine q_iret dX6_readNumbers_29 rfl (fun _ => rfl) ?_
                first
                  | exact ⟨_, rfl, Or.inl ⟨q, by rw [pNums, if_pos (by omega), hq], rfl, _, rfl⟩⟩
                  | exact ⟨_, rfl, Or.inl ⟨q, by rw [pNums, if_neg (by omega), if_pos ha, hq], rfl, _, rfl⟩⟩
                  | exact ⟨_, rfl, Or.inl ⟨_, by rw [pNums, if_neg (by omega), if_neg ha], rfl, _, rfl⟩⟩
            · skip
              refine q_if_ne (n := 28) (t := 30) dX6_readNumbers_25 rfl (by decide) (fun h25 => ?_) (fun h25 => ?_)
              · skip
                refine q_iinc (n := 33) dX6_readNumbers_30 rfl (Nat.le_of_ble_eq_true rfl) rfl (q_nwid ⟨by omega, by omega⟩) (q_s1_s (q_s1_1 rfl)) ?_
                refine q_go (t := 2) dX6_readNumbers_33 (by decide) ?_
                have hqi := (pNum_in (σ := σ) (x := x) (q := q) (by omega)).2 hq
                refine (ih _ _ _ (by omega) (by omega) (by omega)).imp ?_
                rintro r σ2 ⟨v, e, ⟨q2, h1, h2, h3⟩ | ⟨rd2, q2, h1, h2, h3⟩⟩
                · exact ⟨v, e, Or.inl ⟨q2, by rw [pNums]; first | (rw [if_pos (by omega), hq]; exact h1) | (rw [if_neg (by omega), if_pos ha, hq]; exact h1), h2, h3⟩⟩
                · exact ⟨v, e, Or.inr ⟨rd2, q2, by rw [pNums]; first | (rw [if_pos (by omega), hq]; exact h1) | (rw [if_neg (by omega), if_pos ha, hq]; exact h1), h2, h3⟩⟩
              · exact absurd h25 (by decide)
        · skip
          refine q_if_eq (n := 20) (t := 28) dX6_readNumbers_17 rfl (by decide) (fun h17 => ?_) (fun h17 => ?_)
          · skip
            refine q_iconst (n := 29) dX6_readNumbers_28 rfl (k := ?_)
            refine q_iret dX6_readNumbers_29 rfl (fun _ => rfl) ?_
            first
              | exact ⟨_, rfl, Or.inl ⟨q, by rw [pNums, if_pos (by omega), hq], rfl, _, rfl⟩⟩
              | exact ⟨_, rfl, Or.inl ⟨q, by rw [pNums, if_neg (by omega), if_pos ha, hq], rfl, _, rfl⟩⟩
              | exact ⟨_, rfl, Or.inl ⟨_, by rw [pNums, if_neg (by omega), if_neg ha], rfl, _, rfl⟩⟩
          · exact absurd h17 (by decide)
set_option maxRecDepth 100000 in
theorem zX6_readNumbers (σ : q_S) (pl : Int) (rd : Int → Int) (N : Int) (hl : 0 ≤ σ 91 1 ∧ σ 91 1 ≤ 120) (hp : 0 ≤ pl ∧ pl ≤ σ 91 1) (hN : 0 ≤ N ∧ N ≤ 6) : q_Ct mX6_readNumbers shX [.inr (.inr 91), .inl N] (tp σ pl rd) (fun r σ' => ∃ v, r = some v ∧ ((∃ q, pNums (tT σ) N.toNat 0 pl rd = .inl q ∧ v = .inl 0 ∧ ∃ rd', σ' = tp σ q rd') ∨ (∃ rd' q, pNums (tT σ) N.toNat 0 pl rd = .inr (rd', q) ∧ v = .inl 1 ∧ σ' = tp σ q rd'))) := by
  refine q_ct 1 (by decide) rfl rfl ?_
  show q_WP mX6_readNumbers shX 0 [some (.inr (.inr 91)), some (.inl N), none] [] (tp σ pl rd) _
  refine q_iconst (n := 1) dX6_readNumbers_0 rfl (k := ?_)
  refine q_istore_n (n := 2) dX6_readNumbers_1 rfl (Nat.le_of_ble_eq_true rfl) (q_s1_s (q_s1_1 rfl)) ?_
  exact lpX6_rn σ N hN.2 hl N.toNat 0 pl rd (by omega) (by omega) hp
set_option maxRecDepth 100000 in
theorem lpX6_rt (σ : q_S) (hl : 0 ≤ σ 91 1 ∧ σ 91 1 ≤ 120) : ∀ (n : Nat) (i pl os : Int) (rd : Int → Int), (n : Int) + i = 3 → 0 ≤ i → (0 ≤ pl ∧ pl ≤ σ 91 1) → q_WP mX6_readTies shX 30 [some (.inr (.inr 91)), some (.inl os), some (.inl i)] [] (tp σ pl rd) (fun r σ' => ∃ v, r = some v ∧ ((∃ q, pOuts (tT σ) n i pl os = .inl q ∧ v = .inl 0 ∧ ∃ rd', σ' = tp σ q rd') ∨ (∃ x q, pOuts (tT σ) n i pl os = .inr (x, q) ∧ v = .inl 1 ∧ σ' = tp σ q (ud rd 3 x)))) := by
  intro n
  induction n with
  | zero =>
    intro i pl os rd hi h0 hp
    refine q_iload_n (n := 31) dX6_readTies_30 rfl rfl ?_
    refine q_iconst (n := 32) dX6_readTies_31 rfl (k := ?_)
    refine q_icmp_ge (n := 35) (t := 80) dX6_readTies_32 rfl (by decide) (fun h32 => ?_) (fun h32 => ?_)
    · skip
      refine q_aload_n (n := 81) dX6_readTies_80 rfl rfl ?_
      refine q_getR (n := 84) dX6_readTies_81 rfl fX6_25 xi91 rfl ?_
      refine q_iconst (n := 85) dX6_readTies_84 rfl (k := ?_)
      refine q_iload_n (n := 86) dX6_readTies_85 rfl rfl ?_
      refine q_iastore (n := 87) dX6_readTies_86 rfl xi93 ⟨by omega, by omega⟩ ?_
      refine q_iconst (n := 88) dX6_readTies_87 rfl (k := ?_)
      refine q_iret dX6_readTies_88 rfl (fun _ => rfl) ?_
      exact ⟨_, rfl, Or.inr ⟨_, _, rfl, rfl, by rw [tp_ud]⟩⟩
    · exact absurd h32 (by omega)
  | succ n ih =>
    intro i pl os rd hi h0 hp
    have hlt := tT_lt (σ := σ) (p := pl)
    have hlt2 := tT_lt (σ := σ) (p := pl + 1)
    refine q_iload_n (n := 31) dX6_readTies_30 rfl rfl ?_
    refine q_iconst (n := 32) dX6_readTies_31 rfl (k := ?_)
    refine q_icmp_ge (n := 35) (t := 80) dX6_readTies_32 rfl (by decide) (fun h32 => ?_) (fun h32 => ?_)
    · exact absurd h32 (by omega)
    · skip
      refine q_aload_n (n := 36) dX6_readTies_35 rfl rfl ?_
      refine q_bipush (n := 38) dX6_readTies_36 rfl (k := ?_)
      refine q_v1 (n := 41) dX6_readTies_38 rfl (zX6_accept σ _ _ _ hl (by omega)) vX6_accept lX6_33 rfl rfl xi91 rfl (fun v38 σ38 h38 => ?_)
      rcases h38 with ⟨ha, rfl, rfl⟩ | ⟨ha, rfl, rfl⟩
      · skip
        refine q_if_eq (n := 44) (t := 68) dX6_readTies_41 rfl (by decide) (fun h41 => ?_) (fun h41 => ?_)
        · exact absurd h41 (by decide)
        · skip
          refine q_aload_n (n := 45) dX6_readTies_44 rfl rfl ?_
          refine q_iconst (n := 46) dX6_readTies_45 rfl (k := ?_)
          refine q_v1 (n := 49) dX6_readTies_46 rfl (zX6_readFigure σ _ _ _ hl (by omega) (by omega)) vX6_readFigure lX6_41 rfl rfl xi91 rfl (fun v46 σ46 h46 => ?_)
          rcases h46 with ⟨hb, rfl, rfl⟩ | ⟨hb, rfl, rfl⟩
          · skip
            refine q_if_ne (n := 52) (t := 54) dX6_readTies_49 rfl (by decide) (fun h49 => ?_) (fun h49 => ?_)
            · skip
              refine q_iload_n (n := 55) dX6_readTies_54 rfl rfl ?_
              refine q_iconst (n := 56) dX6_readTies_55 rfl (k := ?_)
              refine q_aload_n (n := 57) dX6_readTies_56 rfl rfl ?_
              refine q_getR (n := 60) dX6_readTies_57 rfl fX6_25 xi91 rfl ?_
              refine q_iconst (n := 61) dX6_readTies_60 rfl (k := ?_)
              refine q_iaload (n := 62) dX6_readTies_61 rfl xi93 ⟨by omega, by omega⟩ ?_
              rw [tp_rd, ud_s]
              refine q_ishl (n := 63) dX6_readTies_62 rfl ?_
              refine q_ior (n := 64) dX6_readTies_63 rfl ?_
              refine q_istore_n (n := 65) dX6_readTies_64 rfl (Nat.le_of_ble_eq_true rfl) (q_s1_1 rfl) ?_
              refine q_go (t := 74) dX6_readTies_65 (by decide) ?_
              refine q_iinc (n := 77) dX6_readTies_74 rfl (Nat.le_of_ble_eq_true rfl) rfl (q_nwid ⟨by omega, by omega⟩) (q_s1_s (q_s1_1 rfl)) ?_
              refine q_go (t := 30) dX6_readTies_77 (by decide) ?_
              refine (ih _ _ _ _ (by omega) (by omega) (by omega)).imp ?_
              rintro r σ2 ⟨v, e, ⟨q2, h1, h2, h3⟩ | ⟨x, q2, h1, h2, h3⟩⟩
              · exact ⟨v, e, Or.inl ⟨q2, by rw [pOuts, if_pos ha, if_pos hb]; exact h1, h2, h3⟩⟩
              · exact ⟨v, e, Or.inr ⟨x, q2, by rw [pOuts, if_pos ha, if_pos hb]; exact h1, h2, by rw [h3, ud_ud]⟩⟩
            · exact absurd h49 (by decide)
          · skip
            refine q_if_ne (n := 52) (t := 54) dX6_readTies_49 rfl (by decide) (fun h49 => ?_) (fun h49 => ?_)
            · exact absurd h49 (by decide)
            · skip
              refine q_iconst (n := 53) dX6_readTies_52 rfl (k := ?_)
              refine q_iret dX6_readTies_53 rfl (fun _ => rfl) ?_
              first
                | exact ⟨_, rfl, Or.inl ⟨_, by rw [pOuts, if_pos ha, if_neg hb], rfl, _, rfl⟩⟩
                | exact ⟨_, rfl, Or.inl ⟨_, by rw [pOuts, if_neg ha, if_pos (by omega)], rfl, _, rfl⟩⟩
                | exact ⟨_, rfl, Or.inr ⟨_, _, by rw [pOuts, if_neg ha, if_neg (by omega)], rfl, by rw [tp_ud]⟩⟩
      · skip
        refine q_if_eq (n := 44) (t := 68) dX6_readTies_41 rfl (by decide) (fun h41 => ?_) (fun h41 => ?_)
        · skip
          refine q_iload_n (n := 69) dX6_readTies_68 rfl rfl ?_
          refine q_if_ne (n := 72) (t := 80) dX6_readTies_69 rfl (by decide) (fun h69 => ?_) (fun h69 => ?_)
          · skip
            refine q_aload_n (n := 81) dX6_readTies_80 rfl rfl ?_
            refine q_getR (n := 84) dX6_readTies_81 rfl fX6_25 xi91 rfl ?_
            refine q_iconst (n := 85) dX6_readTies_84 rfl (k := ?_)
            refine q_iload_n (n := 86) dX6_readTies_85 rfl rfl ?_
            refine q_iastore (n := 87) dX6_readTies_86 rfl xi93 ⟨by omega, by omega⟩ ?_
            refine q_iconst (n := 88) dX6_readTies_87 rfl (k := ?_)
            refine q_iret dX6_readTies_88 rfl (fun _ => rfl) ?_
            first
              | exact ⟨_, rfl, Or.inl ⟨_, by rw [pOuts, if_pos ha, if_neg hb], rfl, _, rfl⟩⟩
              | exact ⟨_, rfl, Or.inl ⟨_, by rw [pOuts, if_neg ha, if_pos (by omega)], rfl, _, rfl⟩⟩
              | exact ⟨_, rfl, Or.inr ⟨_, _, by rw [pOuts, if_neg ha, if_neg (by omega)], rfl, by rw [tp_ud]⟩⟩
          · skip
            refine q_iconst (n := 73) dX6_readTies_72 rfl (k := ?_)
            refine q_iret dX6_readTies_73 rfl (fun _ => rfl) ?_
            first
              | exact ⟨_, rfl, Or.inl ⟨_, by rw [pOuts, if_pos ha, if_neg hb], rfl, _, rfl⟩⟩
              | exact ⟨_, rfl, Or.inl ⟨_, by rw [pOuts, if_neg ha, if_pos (by omega)], rfl, _, rfl⟩⟩
              | exact ⟨_, rfl, Or.inr ⟨_, _, by rw [pOuts, if_neg ha, if_neg (by omega)], rfl, by rw [tp_ud]⟩⟩
        · exact absurd h41 (by decide)
set_option maxRecDepth 100000 in
theorem zX6_readTies (σ : q_S) (pl : Int) (rd : Int → Int) (hl : 0 ≤ σ 91 1 ∧ σ 91 1 ≤ 120) (hp : 0 ≤ pl ∧ pl ≤ σ 91 1) : q_Ct mX6_readTies shX [.inr (.inr 91)] (tp σ pl rd) (fun r σ' => ∃ v, r = some v ∧ ((∃ q, pTies (tT σ) pl rd = .inl q ∧ v = .inl 0 ∧ ∃ rd', σ' = tp σ q rd') ∨ (∃ rd' q, pTies (tT σ) pl rd = .inr (rd', q) ∧ v = .inl 1 ∧ σ' = tp σ q rd'))) := by
  refine q_ct 2 (by decide) rfl rfl ?_
  show q_WP mX6_readTies shX 0 [some (.inr (.inr 91)), none, none] [] (tp σ pl rd) _
  have hlt := tT_lt (σ := σ) (p := pl)
  have hlt2 := tT_lt (σ := σ) (p := pl + 1)
  refine q_aload_n (n := 1) dX6_readTies_0 rfl rfl ?_
  refine q_getR (n := 4) dX6_readTies_1 rfl fX6_25 xi91 rfl ?_
  refine q_iconst (n := 5) dX6_readTies_4 rfl (k := ?_)
  refine q_iconst (n := 6) dX6_readTies_5 rfl (k := ?_)
  refine q_iastore (n := 7) dX6_readTies_6 rfl xi93 ⟨by omega, by omega⟩ ?_
  rw [tp_ud]
  refine q_aload_n (n := 8) dX6_readTies_7 rfl rfl ?_
  refine q_bipush (n := 10) dX6_readTies_8 rfl (k := ?_)
  refine q_v1 (n := 13) dX6_readTies_10 rfl (zX6_accept σ _ _ _ hl (by omega)) vX6_accept lX6_33 rfl rfl xi91 rfl (fun v10 σ10 h10 => ?_)
  rcases h10 with ⟨ha, rfl, rfl⟩ | ⟨ha, rfl, rfl⟩
  · skip
    refine q_if_eq (n := 16) (t := 26) dX6_readTies_13 rfl (by decide) (fun h13 => ?_) (fun h13 => ?_)
    · exact absurd h13 (by decide)
    · skip
      refine q_aload_n (n := 17) dX6_readTies_16 rfl rfl ?_
      refine q_iconst (n := 18) dX6_readTies_17 rfl (k := ?_)
      refine q_v1 (n := 21) dX6_readTies_18 rfl (zX6_readFigure σ _ _ _ hl (by omega) (by omega)) vX6_readFigure lX6_41 rfl rfl xi91 rfl (fun v18 σ18 h18 => ?_)
      rcases h18 with ⟨hb, rfl, rfl⟩ | ⟨hb, rfl, rfl⟩
      · skip
        refine q_if_ne (n := 24) (t := 26) dX6_readTies_21 rfl (by decide) (fun h21 => ?_) (fun h21 => ?_)
        · skip
          refine q_iconst (n := 27) dX6_readTies_26 rfl (k := ?_)
          refine q_istore_n (n := 28) dX6_readTies_27 rfl (Nat.le_of_ble_eq_true rfl) (q_s1_1 rfl) ?_
          refine q_iconst (n := 29) dX6_readTies_28 rfl (k := ?_)
          refine q_istore_n (n := 30) dX6_readTies_29 rfl (Nat.le_of_ble_eq_true rfl) (q_s1_s (q_s1_1 rfl)) ?_
          refine (lpX6_rt σ hl 3 0 _ 0 _ (by decide) (by decide) (by omega)).imp ?_
          rintro r σ2 ⟨v, e, ⟨q2, h1, h2, h3⟩ | ⟨x, q2, h1, h2, h3⟩⟩
          · exact ⟨v, e, Or.inl ⟨q2, by unfold pTies; first | (rw [if_pos ha, if_pos hb, h1]) | (rw [if_neg ha, h1]), h2, h3⟩⟩
          · exact ⟨v, e, Or.inr ⟨_, q2, by unfold pTies; first | (rw [if_pos ha, if_pos hb, h1]) | (rw [if_neg ha, h1]), h2, by first | (rw [h3]; done) | rw [h3, ud_ud]⟩⟩
        · exact absurd h21 (by decide)
      · skip
        refine q_if_ne (n := 24) (t := 26) dX6_readTies_21 rfl (by decide) (fun h21 => ?_) (fun h21 => ?_)
        · exact absurd h21 (by decide)
        · skip
          refine q_iconst (n := 25) dX6_readTies_24 rfl (k := ?_)
          refine q_iret dX6_readTies_25 rfl (fun _ => rfl) ?_
          exact ⟨_, rfl, Or.inl ⟨_, by unfold pTies; rw [if_pos ha, if_neg hb], rfl, _, rfl⟩⟩
  · skip
    refine q_if_eq (n := 16) (t := 26) dX6_readTies_13 rfl (by decide) (fun h13 => ?_) (fun h13 => ?_)
    · skip
      refine q_iconst (n := 27) dX6_readTies_26 rfl (k := ?_)
      refine q_istore_n (n := 28) dX6_readTies_27 rfl (Nat.le_of_ble_eq_true rfl) (q_s1_1 rfl) ?_
      refine q_iconst (n := 29) dX6_readTies_28 rfl (k := ?_)
      refine q_istore_n (n := 30) dX6_readTies_29 rfl (Nat.le_of_ble_eq_true rfl) (q_s1_s (q_s1_1 rfl)) ?_
      refine (lpX6_rt σ hl 3 0 _ 0 _ (by decide) (by decide) (by omega)).imp ?_
      rintro r σ2 ⟨v, e, ⟨q2, h1, h2, h3⟩ | ⟨x, q2, h1, h2, h3⟩⟩
      · exact ⟨v, e, Or.inl ⟨q2, by unfold pTies; first | (rw [if_pos ha, if_pos hb, h1]) | (rw [if_neg ha, h1]), h2, h3⟩⟩
      · exact ⟨v, e, Or.inr ⟨_, q2, by unfold pTies; first | (rw [if_pos ha, if_pos hb, h1]) | (rw [if_neg ha, h1]), h2, by first | (rw [h3]; done) | rw [h3, ud_ud]⟩⟩
    · exact absurd h13 (by decide)
set_option maxRecDepth 100000 in
theorem zX6_append (σ : q_S) (pl : Int) (rd : Int → Int) (ch : Int) (hl : 0 ≤ σ 91 1 ∧ σ 91 1 ≤ 120) (hc : 1 ≤ ch ∧ ch ≤ 127) : q_Ct mX6_append shX [.inr (.inr 91), .inl ch] (tp σ pl rd) (fun r σ' => ∃ v, r = some v ∧ (σ 91 1 = 120 ∧ v = .inl 0 ∧ σ' = tp σ pl rd ∨ σ 91 1 < 120 ∧ v = .inl 1 ∧ σ' = q_up (q_up (tp σ pl rd) 92 (σ 91 1) ch) 91 1 (σ 91 1 + 1))) := by
  refine q_ct 0 (by decide) rfl rfl ?_
  show q_WP mX6_append shX 0 [some (.inr (.inr 91)), some (.inl ch)] [] (tp σ pl rd) _
  refine q_aload_n (n := 1) dX6_append_0 rfl rfl ?_
  refine q_getIE (σ 91 1) (kI := 1) (n := 4) (by decide) dX6_append_1 rfl fX6_15 xi91 rfl rfl (tp_o (by decide)) ?_
  refine q_bipush (n := 6) dX6_append_4 rfl (k := ?_)
  refine q_icmp_lt (n := 9) (t := 11) dX6_append_6 rfl (by decide) (fun h6 => ?_) (fun h6 => ?_)
  · skip
    refine q_aload_n (n := 12) dX6_append_11 rfl rfl ?_
    refine q_getR (n := 15) dX6_append_12 rfl fX6_9 xi91 rfl ?_
    refine q_aload_n (n := 16) dX6_append_15 rfl rfl ?_
    refine q_getIE (σ 91 1) (kI := 1) (n := 19) (by decide) dX6_append_16 rfl fX6_15 xi91 rfl rfl (tp_o (by decide)) ?_
    refine q_iload_n (n := 20) dX6_append_19 rfl rfl ?_
    refine q_i2b_ (n := 21) dX6_append_20 rfl ?_
    refine q_topI ch (i2b_id (by omega)) ?_
    refine q_bastore (n := 22) dX6_append_21 rfl xi92 ⟨by omega, by omega⟩ ⟨by omega, by omega⟩ ?_
    refine q_aload_n (n := 23) dX6_append_22 rfl rfl ?_
    refine q_dup (n := 24) dX6_append_23 rfl rfl ?_
    refine q_getIE (σ 91 1) (kI := 1) (n := 27) (by decide) dX6_append_24 rfl fX6_15 xi91 rfl rfl (by rw [q_up_n (by omega)]; exact tp_o (by decide)) ?_
    refine q_iconst (n := 28) dX6_append_27 rfl (k := ?_)
    refine q_iaddS (n := 29) dX6_append_28 rfl ⟨by omega, by omega⟩ ?_
    refine q_putI (kI := 1) (n := 32) dX6_append_29 rfl pX6_15 xi91 rfl rfl ?_
    refine q_iconst (n := 33) dX6_append_32 rfl (k := ?_)
    refine q_iret dX6_append_33 rfl (fun _ => rfl) ?_
    first | exact ⟨_, rfl, Or.inl ⟨by omega, rfl, rfl⟩⟩ | exact ⟨_, rfl, Or.inr ⟨by omega, rfl, rfl⟩⟩
  · skip
    refine q_iconst (n := 10) dX6_append_9 rfl (k := ?_)
    refine q_iret dX6_append_10 rfl (fun _ => rfl) ?_
    first | exact ⟨_, rfl, Or.inl ⟨by omega, rfl, rfl⟩⟩ | exact ⟨_, rfl, Or.inr ⟨by omega, rfl, rfl⟩⟩
