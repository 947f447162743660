theorem pE_next {E : Int → Int} {s kd i : Int} (hi : 0 ≤ i ∧ i < 4) : (fun j => if j = i then E i + s * num kd i else (if i ≤ j ∧ j < 4 then E j else addE E s kd j)) = (fun j => if i + 1 ≤ j ∧ j < 4 then E j else addE E s kd j) := by
  funext j
  by_cases h : j = i
  · subst h
    rw [if_pos rfl, if_neg (by omega)]
    unfold addE
    rw [if_pos ⟨by omega, by omega⟩]
  · rw [if_neg h]
    by_cases h2 : i ≤ j ∧ j < 4
    · rw [if_pos h2, if_pos (by omega)]
    · rw [if_neg h2, if_neg (by omega)]
theorem pE_0 {E : Int → Int} {s kd : Int} : (fun j => if 0 ≤ j ∧ j < 4 then E j else addE E s kd j) = E := by
  funext j
  unfold addE
  by_cases h : 0 ≤ j ∧ j < 4
  · rw [if_pos h]
  · rw [if_neg h, if_neg h]
theorem pE_4 {E : Int → Int} {s kd : Int} : (fun j => if 4 ≤ j ∧ j < 4 then E j else addE E s kd j) = addE E s kd := by
  funext j
  rw [if_neg (by omega)]
set_option maxRecDepth 100000 in
theorem lpX2_we (σ : q_S) (kd s : Int) (hk : 0 ≤ kd ∧ kd < 12) (hs : q_bd s 1) (hE : ∀ j : Int, 0 ≤ j → j < 4 → q_bd (σ 90 j) 1000) : ∀ (n : Nat) (i : Int), (n : Int) + i = 4 → 0 ≤ i → q_WP mX2_weigh shX 2 [some (.inr (.inr 84)), some (.inl kd), some (.inl s), some (.inl i)] [] (q_row σ 90 (fun j => if i ≤ j ∧ j < 4 then σ 90 j else addE (σ 90) s kd j)) (fun r σ' => r = none ∧ σ' = q_row σ 90 (addE (σ 90) s kd)) := by
  intro n
  induction n with
  | zero =>
    intro i hi h0
    have : i = 4 := by omega
    subst this
    rw [pE_4]
    refine q_iload_n (n := 3) dX2_weigh_2 rfl rfl ?_
    refine q_iconst (n := 4) dX2_weigh_3 rfl (k := ?_)
    refine q_icmp_ge (n := 7) (t := 29) dX2_weigh_4 rfl (by decide) (fun h4 => ?_) (fun h4 => ?_)
    · skip
      refine q_vret dX2_weigh_29 rfl ?_
      exact ⟨rfl, rfl⟩
    · exact absurd h4 (by omega)
  | succ n ih =>
    intro i hi h0
    refine q_iload_n (n := 3) dX2_weigh_2 rfl rfl ?_
    refine q_iconst (n := 4) dX2_weigh_3 rfl (k := ?_)
    refine q_icmp_ge (n := 7) (t := 29) dX2_weigh_4 rfl (by decide) (fun h4 => ?_) (fun h4 => ?_)
    · exact absurd h4 (by omega)
    · skip
      refine q_aload_n (n := 8) dX2_weigh_7 rfl rfl ?_
      refine q_getR (n := 11) dX2_weigh_8 rfl fX2_27 xi84 rfl ?_
      refine q_iload_n (n := 12) dX2_weigh_11 rfl rfl ?_
      refine q_dup2 (n := 13) dX2_weigh_12 rfl rfl rfl ?_
      refine q_ialoadE (σ 90 i) (n := 14) dX2_weigh_13 rfl xi90 ⟨by omega, by omega⟩ (by rw [q_row_s]; exact if_pos ⟨by omega, by omega⟩) ?_
      have b1_ := hE i (by omega) (by omega)
      refine q_iload_n (n := 15) dX2_weigh_14 rfl rfl ?_
      refine q_iload_n (n := 16) dX2_weigh_15 rfl rfl ?_
      refine q_iload_n (n := 17) dX2_weigh_16 rfl rfl ?_
      refine q_c2D (n := 20) dX2_weigh_17 rfl (zX7_numberOf _ _ _ (by omega)) vX7_numberOf lX2_40 rfl rfl ?_
      have b2_ := (show q_bd (q_num.getD (5 * kd + i).toNat 0) 1 from num_bd hk ⟨by omega, by omega⟩)
      have b3_ := bd_mul (C := 1) hs b2_ (by decide)
      refine q_imulS (n := 21) dX2_weigh_20 rfl (bd_32 b3_ (by decide)) ?_
      have b4_ := bd_add (C := 1001) b1_ b3_ (by decide)
      refine q_iaddS (n := 22) dX2_weigh_21 rfl (bd_32 b4_ (by decide)) ?_
      refine q_iastore (n := 23) dX2_weigh_22 rfl xi90 ⟨by omega, by omega⟩ ?_
      refine q_iinc (n := 26) dX2_weigh_23 rfl (by decide) rfl (q_nwid ⟨by omega, by omega⟩) (q_s1_s (q_s1_s (q_s1_1 rfl))) ?_
      refine q_go (t := 2) dX2_weigh_26 (by decide) ?_
      rw [q_row_up]
      refine q_cut _ _ (q_row σ 90 (fun j => if i + 1 ≤ j ∧ j < 4 then σ 90 j else addE (σ 90) s kd j)) rfl rfl (congrArg _ (pE_next ⟨by omega, by omega⟩)) ?_
      exact ih _ (by omega) (by omega)
set_option maxRecDepth 100000 in
theorem zX2_weigh (kd s : Int) (σ : q_S) (hk : 0 ≤ kd ∧ kd < 12) (hs : q_bd s 1) (hE : ∀ j : Int, 0 ≤ j → j < 4 → q_bd (σ 90 j) 1000) : q_Ct mX2_weigh shX [.inr (.inr 84), .inl kd, .inl s] σ (fun r σ' => r = none ∧ σ' = q_row σ 90 (addE (σ 90) s kd)) := by
  refine q_ct 1 (by decide) rfl rfl ?_
  show q_WP mX2_weigh shX 0 [some (.inr (.inr 84)), some (.inl kd), some (.inl s), none] [] σ _
  refine q_iconst (n := 1) dX2_weigh_0 rfl (k := ?_)
  refine q_istore_n (n := 2) dX2_weigh_1 rfl (by decide) (q_s1_s (q_s1_s (q_s1_1 rfl))) ?_
  refine q_cut _ _ (q_row σ 90 (fun j => if 0 ≤ j ∧ j < 4 then σ 90 j else addE (σ 90) s kd j)) rfl rfl (by rw [pE_0, q_row_0]) ?_
  exact lpX2_we σ kd s hk hs hE 4 0 (by decide) (by decide)
theorem zE_next {E : Int → Int} {i : Int} (hi : 0 ≤ i ∧ i < 4) : (fun j => if j = i then 0 else (if 0 ≤ j ∧ j < i then 0 else E j)) = (fun j => if 0 ≤ j ∧ j < i + 1 then 0 else E j) := by
  funext j
  by_cases h : j = i
  · subst h
    rw [if_pos rfl, if_pos ⟨by omega, by omega⟩]
  · rw [if_neg h]
    by_cases h2 : 0 ≤ j ∧ j < i
    · rw [if_pos h2, if_pos ⟨by omega, by omega⟩]
    · rw [if_neg h2, if_neg (by omega)]
theorem zE_0 {E : Int → Int} : (fun j => if 0 ≤ j ∧ j < 0 then 0 else E j) = E := by
  funext j
  rw [if_neg (by omega)]
set_option maxRecDepth 100000 in
theorem lpX2_be (σ : q_S) (L : Int) : ∀ (n : Nat) (i : Int), (n : Int) + i = 4 → 0 ≤ i → q_WP mX2_begin shX 17 [some (.inr (.inr 84)), some (.inl L), some (.inl i)] [] (q_row σ 90 (fun j => if 0 ≤ j ∧ j < i then 0 else σ 90 j)) (fun r σ' => r = none ∧ σ' = q_row σ 90 (fun j => if 0 ≤ j ∧ j < 4 then 0 else σ 90 j)) := by
  intro n
  induction n with
  | zero =>
    intro i hi h0
    have : i = 4 := by omega
    subst this
    refine q_iload_n (n := 18) dX2_begin_17 rfl rfl ?_
    refine q_iconst (n := 19) dX2_begin_18 rfl (k := ?_)
    refine q_icmp_ge (n := 22) (t := 35) dX2_begin_19 rfl (by decide) (fun h19 => ?_) (fun h19 => ?_)
    · skip
      refine q_vret dX2_begin_35 rfl ?_
      exact ⟨rfl, rfl⟩
    · exact absurd h19 (by omega)
  | succ n ih =>
    intro i hi h0
    refine q_iload_n (n := 18) dX2_begin_17 rfl rfl ?_
    refine q_iconst (n := 19) dX2_begin_18 rfl (k := ?_)
    refine q_icmp_ge (n := 22) (t := 35) dX2_begin_19 rfl (by decide) (fun h19 => ?_) (fun h19 => ?_)
    · exact absurd h19 (by omega)
    · skip
      refine q_aload_n (n := 23) dX2_begin_22 rfl rfl ?_
      refine q_getR (n := 26) dX2_begin_23 rfl fX2_27 xi84 rfl ?_
      refine q_iload_n (n := 27) dX2_begin_26 rfl rfl ?_
      refine q_iconst (n := 28) dX2_begin_27 rfl (k := ?_)
      refine q_iastore (n := 29) dX2_begin_28 rfl xi90 ⟨by omega, by omega⟩ ?_
      refine q_iinc (n := 32) dX2_begin_29 rfl (by decide) rfl (q_nwid ⟨by omega, by omega⟩) (q_s1_s (q_s1_1 rfl)) ?_
      refine q_go (t := 17) dX2_begin_32 (by decide) ?_
      rw [q_row_up]
      refine q_cut _ _ (q_row σ 90 (fun j => if 0 ≤ j ∧ j < i + 1 then 0 else σ 90 j)) rfl rfl (congrArg _ (zE_next ⟨by omega, by omega⟩)) ?_
      exact ih _ (by omega) (by omega)
set_option maxRecDepth 100000 in
theorem zX2_begin (L : Int) (σ : q_S) : q_Ct mX2_begin shX [.inr (.inr 84), .inl L] σ (fun r σ' => r = none ∧ σ' = q_row (q_up (q_up (q_up σ 84 6 L) 84 7 0) 84 8 0) 90 (fun j => if 0 ≤ j ∧ j < 4 then 0 else σ 90 j)) := by
  refine q_ct 1 (by decide) rfl rfl ?_
  show q_WP mX2_begin shX 0 [some (.inr (.inr 84)), some (.inl L), none] [] σ _
  refine q_aload_n (n := 1) dX2_begin_0 rfl rfl ?_
  refine q_iload_n (n := 2) dX2_begin_1 rfl rfl ?_
  refine q_putI (kI := 6) (n := 5) dX2_begin_2 rfl pX2_30 xi84 rfl rfl ?_
  refine q_aload_n (n := 6) dX2_begin_5 rfl rfl ?_
  refine q_iconst (n := 7) dX2_begin_6 rfl (k := ?_)
  refine q_putI (kI := 7) (n := 10) dX2_begin_7 rfl pX2_34 xi84 rfl rfl ?_
  refine q_aload_n (n := 11) dX2_begin_10 rfl rfl ?_
  refine q_iconst (n := 12) dX2_begin_11 rfl (k := ?_)
  refine q_putI (kI := 8) (n := 15) dX2_begin_12 rfl pX2_37 xi84 rfl rfl ?_
  refine q_iconst (n := 16) dX2_begin_15 rfl (k := ?_)
  refine q_istore_n (n := 17) dX2_begin_16 rfl (by decide) (q_s1_s (q_s1_1 rfl)) ?_
  refine q_cut _ _ (q_row (q_up (q_up (q_up σ 84 6 L) 84 7 0) 84 8 0) 90 (fun j => if 0 ≤ j ∧ j < 0 then 0 else σ 90 j)) rfl rfl ?_ ?_
  · rw [zE_0]
    exact (q_row_0 (σ := q_up (q_up (q_up σ 84 6 L) 84 7 0) 84 8 0) (c := 90)).symm
  · exact lpX2_be (q_up (q_up (q_up σ 84 6 L) 84 7 0) 84 8 0) L 4 0 (by decide) (by decide)
set_option maxRecDepth 100000 in
theorem zX2_ask (a b d : Int) (σ : q_S) (h : 0 ≤ σ 84 7 ∧ σ 84 7 < 5) : q_Ct mX2_ask shX [.inr (.inr 84), .inl a, .inl b, .inl d] σ (fun r σ' => r = none ∧ σ' = q_up (q_up (q_up (q_up σ 85 (σ 84 7) a) 86 (σ 84 7) b) 87 (σ 84 7) d) 84 7 (σ 84 7 + 1)) := by
  refine q_ct 0 (by decide) rfl rfl ?_
  show q_WP mX2_ask shX 0 [some (.inr (.inr 84)), some (.inl a), some (.inl b), some (.inl d)] [] σ _
  refine q_aload_n (n := 1) dX2_ask_0 rfl rfl ?_
  refine q_getI (kI := 7) (n := 4) (by decide) dX2_ask_1 rfl fX2_34 xi84 rfl rfl ?_
  refine q_iconst (n := 5) dX2_ask_4 rfl (k := ?_)
  refine q_icmp_ge (n := 8) (t := 48) dX2_ask_5 rfl (by decide) (fun h5 => ?_) (fun h5 => ?_)
  · exact absurd h5 (by omega)
  · skip
    refine q_aload_n (n := 9) dX2_ask_8 rfl rfl ?_
    refine q_getR (n := 12) dX2_ask_9 rfl fX2_11 xi84 rfl ?_
    refine q_aload_n (n := 13) dX2_ask_12 rfl rfl ?_
    refine q_getI (kI := 7) (n := 16) (by decide) dX2_ask_13 rfl fX2_34 xi84 rfl rfl ?_
    refine q_iload_n (n := 17) dX2_ask_16 rfl rfl ?_
    refine q_iastore (n := 18) dX2_ask_17 rfl xi85 ⟨by omega, by omega⟩ ?_
    refine q_aload_n (n := 19) dX2_ask_18 rfl rfl ?_
    refine q_getR (n := 22) dX2_ask_19 rfl fX2_15 xi84 rfl ?_
    refine q_aload_n (n := 23) dX2_ask_22 rfl rfl ?_
    refine q_getIE (σ 84 7) (kI := 7) (n := 26) (by decide) dX2_ask_23 rfl fX2_34 xi84 rfl rfl (by simp [q_up]) ?_
    refine q_iload_n (n := 27) dX2_ask_26 rfl rfl ?_
    refine q_iastore (n := 28) dX2_ask_27 rfl xi86 ⟨by omega, by omega⟩ ?_
    refine q_aload_n (n := 29) dX2_ask_28 rfl rfl ?_
    refine q_getR (n := 32) dX2_ask_29 rfl fX2_18 xi84 rfl ?_
    refine q_aload_n (n := 33) dX2_ask_32 rfl rfl ?_
    refine q_getIE (σ 84 7) (kI := 7) (n := 36) (by decide) dX2_ask_33 rfl fX2_34 xi84 rfl rfl (by simp [q_up]) ?_
    refine q_iload_n (n := 37) dX2_ask_36 rfl rfl ?_
    refine q_iastore (n := 38) dX2_ask_37 rfl xi87 ⟨by omega, by omega⟩ ?_
    refine q_aload_n (n := 39) dX2_ask_38 rfl rfl ?_
    refine q_dup (n := 40) dX2_ask_39 rfl rfl ?_
    refine q_getIE (σ 84 7) (kI := 7) (n := 43) (by decide) dX2_ask_40 rfl fX2_34 xi84 rfl rfl (by simp [q_up]) ?_
    refine q_iconst (n := 44) dX2_ask_43 rfl (k := ?_)
    refine q_iaddS (n := 45) dX2_ask_44 rfl ⟨by omega, by omega⟩ ?_
    refine q_putI (kI := 7) (n := 48) dX2_ask_45 rfl pX2_34 xi84 rfl rfl ?_
    refine q_vret dX2_ask_48 rfl ?_
    exact ⟨rfl, rfl⟩
set_option maxRecDepth 100000 in
theorem zX2_isLawful (σ : q_S) (hE : ∀ j : Int, 0 ≤ j → j < 4 → q_bd (σ 90 j) 1000) : q_Ct mX2_isLawful shX [.inr (.inr 84)] σ (fun r σ' => ∃ v, r = some v ∧ (lawful (σ 84 6) (σ 90) ∧ v = .inl 1 ∧ σ' = σ ∨ ¬ lawful (σ 84 6) (σ 90) ∧ v = .inl 0 ∧ σ' = σ)) := by
  refine q_ct 0 (by decide) rfl rfl ?_
  show q_WP mX2_isLawful shX 0 [some (.inr (.inr 84))] [] σ _
  refine q_aload_n (n := 1) dX2_isLawful_0 rfl rfl ?_
  refine q_getR (n := 4) dX2_isLawful_1 rfl fX2_27 xi84 rfl ?_
  refine q_iconst (n := 5) dX2_isLawful_4 rfl (k := ?_)
  refine q_iaload (n := 6) dX2_isLawful_5 rfl xi90 ⟨by omega, by omega⟩ ?_
  refine q_if_ne (n := 9) (t := 18) dX2_isLawful_6 rfl (by decide) (fun h6 => ?_) (fun h6 => ?_)
  · skip
    refine q_iconst (n := 19) dX2_isLawful_18 rfl (k := ?_)
    refine q_iret dX2_isLawful_19 rfl (fun _ => rfl) ?_
    unfold lawful
    first
      | exact ⟨_, rfl, Or.inl ⟨⟨⟨by omega, by omega⟩, Or.inl (by omega)⟩, rfl, rfl⟩⟩
      | exact ⟨_, rfl, Or.inl ⟨⟨⟨by omega, by omega⟩, Or.inr ⟨by omega, by first | (rw [if_pos (by assumption : σ 84 6 = 1)]; omega) | (rw [if_neg (by assumption : ¬ σ 84 6 = 1)]; omega)⟩⟩, rfl, rfl⟩⟩
      | exact ⟨_, rfl, Or.inr ⟨fun z => by
          obtain ⟨⟨z1, z2⟩, z3⟩ := z
          rcases z3 with z3 | ⟨z3, z4⟩
          · omega
          · first
              | omega
              | (rw [if_pos (by assumption : σ 84 6 = 1)] at z4; omega)
              | (rw [if_neg (by assumption : ¬ σ 84 6 = 1)] at z4; omega), rfl, rfl⟩⟩
  · skip
    refine q_aload_n (n := 10) dX2_isLawful_9 rfl rfl ?_
    refine q_getR (n := 13) dX2_isLawful_10 rfl fX2_27 xi84 rfl ?_
    refine q_iconst (n := 14) dX2_isLawful_13 rfl (k := ?_)
    refine q_iaload (n := 15) dX2_isLawful_14 rfl xi90 ⟨by omega, by omega⟩ ?_
    refine q_if_eq (n := 18) (t := 20) dX2_isLawful_15 rfl (by decide) (fun h15 => ?_) (fun h15 => ?_)
    · skip
      refine q_aload_n (n := 21) dX2_isLawful_20 rfl rfl ?_
      refine q_getI (kI := 6) (n := 24) (by decide) dX2_isLawful_21 rfl fX2_30 xi84 rfl rfl ?_
      refine q_iconst (n := 25) dX2_isLawful_24 rfl (k := ?_)
      refine q_icmp_ne (n := 28) (t := 30) dX2_isLawful_25 rfl (by decide) (fun h25 => ?_) (fun h25 => ?_)
      · skip
        refine q_aload_n (n := 31) dX2_isLawful_30 rfl rfl ?_
        refine q_getR (n := 34) dX2_isLawful_31 rfl fX2_27 xi84 rfl ?_
        refine q_iconst (n := 35) dX2_isLawful_34 rfl (k := ?_)
        refine q_iaload (n := 36) dX2_isLawful_35 rfl xi90 ⟨by omega, by omega⟩ ?_
        refine q_if_ne (n := 39) (t := 68) dX2_isLawful_36 rfl (by decide) (fun h36 => ?_) (fun h36 => ?_)
        · skip
          refine q_iconst (n := 69) dX2_isLawful_68 rfl (k := ?_)
          refine q_iret dX2_isLawful_69 rfl (fun _ => rfl) ?_
          unfold lawful
          first
            | exact ⟨_, rfl, Or.inl ⟨⟨⟨by omega, by omega⟩, Or.inl (by omega)⟩, rfl, rfl⟩⟩
            | exact ⟨_, rfl, Or.inl ⟨⟨⟨by omega, by omega⟩, Or.inr ⟨by omega, by first | (rw [if_pos (by assumption : σ 84 6 = 1)]; omega) | (rw [if_neg (by assumption : ¬ σ 84 6 = 1)]; omega)⟩⟩, rfl, rfl⟩⟩
            | exact ⟨_, rfl, Or.inr ⟨fun z => by
                obtain ⟨⟨z1, z2⟩, z3⟩ := z
                rcases z3 with z3 | ⟨z3, z4⟩
                · omega
                · first
                    | omega
                    | (rw [if_pos (by assumption : σ 84 6 = 1)] at z4; omega)
                    | (rw [if_neg (by assumption : ¬ σ 84 6 = 1)] at z4; omega), rfl, rfl⟩⟩
        · skip
          refine q_aload_n (n := 40) dX2_isLawful_39 rfl rfl ?_
          refine q_getR (n := 43) dX2_isLawful_40 rfl fX2_27 xi84 rfl ?_
          refine q_iconst (n := 44) dX2_isLawful_43 rfl (k := ?_)
          refine q_iaload (n := 45) dX2_isLawful_44 rfl xi90 ⟨by omega, by omega⟩ ?_
          refine q_mabsI (n := 48) dX2_isLawful_45 rfl lmX2_44 rfl rfl (by have := hE 3 (by decide) (by decide); unfold q_bd at this; omega) ?_
          refine q_aload_n (n := 49) dX2_isLawful_48 rfl rfl ?_
          refine q_getI (kI := 6) (n := 52) (by decide) dX2_isLawful_49 rfl fX2_30 xi84 rfl rfl ?_
          refine q_iconst (n := 53) dX2_isLawful_52 rfl (k := ?_)
          refine q_icmp_ne (n := 56) (t := 60) dX2_isLawful_53 rfl (by decide) (fun h53 => ?_) (fun h53 => ?_)
          · skip
            refine q_iconst (n := 61) dX2_isLawful_60 rfl (k := ?_)
            refine q_icmp_gt (n := 64) (t := 68) dX2_isLawful_61 rfl (by decide) (fun h61 => ?_) (fun h61 => ?_)
            · skip
              refine q_iconst (n := 69) dX2_isLawful_68 rfl (k := ?_)
              refine q_iret dX2_isLawful_69 rfl (fun _ => rfl) ?_
              unfold lawful
              first
                | exact ⟨_, rfl, Or.inl ⟨⟨⟨by omega, by omega⟩, Or.inl (by omega)⟩, rfl, rfl⟩⟩
                | exact ⟨_, rfl, Or.inl ⟨⟨⟨by omega, by omega⟩, Or.inr ⟨by omega, by first | (rw [if_pos (by assumption : σ 84 6 = 1)]; omega) | (rw [if_neg (by assumption : ¬ σ 84 6 = 1)]; omega)⟩⟩, rfl, rfl⟩⟩
                | exact ⟨_, rfl, Or.inr ⟨fun z => by
                    obtain ⟨⟨z1, z2⟩, z3⟩ := z
                    rcases z3 with z3 | ⟨z3, z4⟩
                    · omega
                    · first
                        | omega
                        | (rw [if_pos (by assumption : σ 84 6 = 1)] at z4; omega)
                        | (rw [if_neg (by assumption : ¬ σ 84 6 = 1)] at z4; omega), rfl, rfl⟩⟩
            · skip
              refine q_iconst (n := 65) dX2_isLawful_64 rfl (k := ?_)
              refine q_go (t := 69) dX2_isLawful_65 (by decide) ?_
              refine q_iret dX2_isLawful_69 rfl (fun _ => rfl) ?_
              unfold lawful
              first
                | exact ⟨_, rfl, Or.inl ⟨⟨⟨by omega, by omega⟩, Or.inl (by omega)⟩, rfl, rfl⟩⟩
                | exact ⟨_, rfl, Or.inl ⟨⟨⟨by omega, by omega⟩, Or.inr ⟨by omega, by first | (rw [if_pos (by assumption : σ 84 6 = 1)]; omega) | (rw [if_neg (by assumption : ¬ σ 84 6 = 1)]; omega)⟩⟩, rfl, rfl⟩⟩
                | exact ⟨_, rfl, Or.inr ⟨fun z => by
                    obtain ⟨⟨z1, z2⟩, z3⟩ := z
                    rcases z3 with z3 | ⟨z3, z4⟩
                    · omega
                    · first
                        | omega
                        | (rw [if_pos (by assumption : σ 84 6 = 1)] at z4; omega)
                        | (rw [if_neg (by assumption : ¬ σ 84 6 = 1)] at z4; omega), rfl, rfl⟩⟩
          · skip
            refine q_iconst (n := 57) dX2_isLawful_56 rfl (k := ?_)
            refine q_go (t := 61) dX2_isLawful_57 (by decide) ?_
            refine q_icmp_gt (n := 64) (t := 68) dX2_isLawful_61 rfl (by decide) (fun h61 => ?_) (fun h61 => ?_)
            · skip
              refine q_iconst (n := 69) dX2_isLawful_68 rfl (k := ?_)
              refine q_iret dX2_isLawful_69 rfl (fun _ => rfl) ?_
              unfold lawful
              first
                | exact ⟨_, rfl, Or.inl ⟨⟨⟨by omega, by omega⟩, Or.inl (by omega)⟩, rfl, rfl⟩⟩
                | exact ⟨_, rfl, Or.inl ⟨⟨⟨by omega, by omega⟩, Or.inr ⟨by omega, by first | (rw [if_pos (by assumption : σ 84 6 = 1)]; omega) | (rw [if_neg (by assumption : ¬ σ 84 6 = 1)]; omega)⟩⟩, rfl, rfl⟩⟩
                | exact ⟨_, rfl, Or.inr ⟨fun z => by
                    obtain ⟨⟨z1, z2⟩, z3⟩ := z
                    rcases z3 with z3 | ⟨z3, z4⟩
                    · omega
                    · first
                        | omega
                        | (rw [if_pos (by assumption : σ 84 6 = 1)] at z4; omega)
                        | (rw [if_neg (by assumption : ¬ σ 84 6 = 1)] at z4; omega), rfl, rfl⟩⟩
            · skip
              refine q_iconst (n := 65) dX2_isLawful_64 rfl (k := ?_)
              refine q_go (t := 69) dX2_isLawful_65 (by decide) ?_
              refine q_iret dX2_isLawful_69 rfl (fun _ => rfl) ?_
              unfold lawful
              first
                | exact ⟨_, rfl, Or.inl ⟨⟨⟨by omega, by omega⟩, Or.inl (by omega)⟩, rfl, rfl⟩⟩
                | exact ⟨_, rfl, Or.inl ⟨⟨⟨by omega, by omega⟩, Or.inr ⟨by omega, by first | (rw [if_pos (by assumption : σ 84 6 = 1)]; omega) | (rw [if_neg (by assumption : ¬ σ 84 6 = 1)]; omega)⟩⟩, rfl, rfl⟩⟩
                | exact ⟨_, rfl, Or.inr ⟨fun z => by
                    obtain ⟨⟨z1, z2⟩, z3⟩ := z
                    rcases z3 with z3 | ⟨z3, z4⟩
                    · omega
                    · first
                        | omega
                        | (rw [if_pos (by assumption : σ 84 6 = 1)] at z4; omega)
                        | (rw [if_neg (by assumption : ¬ σ 84 6 = 1)] at z4; omega), rfl, rfl⟩⟩
      · skip
        refine q_iconst (n := 29) dX2_isLawful_28 rfl (k := ?_)
        refine q_iret dX2_isLawful_29 rfl (fun _ => rfl) ?_
        unfold lawful
        first
          | exact ⟨_, rfl, Or.inl ⟨⟨⟨by omega, by omega⟩, Or.inl (by omega)⟩, rfl, rfl⟩⟩
          | exact ⟨_, rfl, Or.inl ⟨⟨⟨by omega, by omega⟩, Or.inr ⟨by omega, by first | (rw [if_pos (by assumption : σ 84 6 = 1)]; omega) | (rw [if_neg (by assumption : ¬ σ 84 6 = 1)]; omega)⟩⟩, rfl, rfl⟩⟩
          | exact ⟨_, rfl, Or.inr ⟨fun z => by
              obtain ⟨⟨z1, z2⟩, z3⟩ := z
              rcases z3 with z3 | ⟨z3, z4⟩
              · omega
              · first
                  | omega
                  | (rw [if_pos (by assumption : σ 84 6 = 1)] at z4; omega)
                  | (rw [if_neg (by assumption : ¬ σ 84 6 = 1)] at z4; omega), rfl, rfl⟩⟩
    · skip
      refine q_iconst (n := 19) dX2_isLawful_18 rfl (k := ?_)
      refine q_iret dX2_isLawful_19 rfl (fun _ => rfl) ?_
      unfold lawful
      first
        | exact ⟨_, rfl, Or.inl ⟨⟨⟨by omega, by omega⟩, Or.inl (by omega)⟩, rfl, rfl⟩⟩
        | exact ⟨_, rfl, Or.inl ⟨⟨⟨by omega, by omega⟩, Or.inr ⟨by omega, by first | (rw [if_pos (by assumption : σ 84 6 = 1)]; omega) | (rw [if_neg (by assumption : ¬ σ 84 6 = 1)]; omega)⟩⟩, rfl, rfl⟩⟩
        | exact ⟨_, rfl, Or.inr ⟨fun z => by
            obtain ⟨⟨z1, z2⟩, z3⟩ := z
            rcases z3 with z3 | ⟨z3, z4⟩
            · omega
            · first
                | omega
                | (rw [if_pos (by assumption : σ 84 6 = 1)] at z4; omega)
                | (rw [if_neg (by assumption : ¬ σ 84 6 = 1)] at z4; omega), rfl, rfl⟩⟩
