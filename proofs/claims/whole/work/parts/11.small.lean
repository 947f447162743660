set_option maxRecDepth 100000 in
theorem zX3_hasTrack (p t : Int) (σ : q_S) (hp : q_Pic p) : q_Ct mX3_hasTrack shX [.inr (.inr p), .inl t] σ (fun r σ' => r = some (.inl (if 0 ≤ t ∧ t < σ p 1 then 1 else 0)) ∧ σ' = σ) := by
  refine q_ct 0 (by decide) rfl rfl ?_
  show q_WP mX3_hasTrack shX 0 [some (.inr (.inr p)), some (.inl t)] [] σ _
  refine q_iload_n (n := 1) dX3_hasTrack_0 rfl rfl ?_
  refine q_if_lt (n := 4) (t := 16) dX3_hasTrack_1 rfl (by decide) (fun h1 => ?_) (fun h1 => ?_)
  · skip
    refine q_iconst (n := 17) dX3_hasTrack_16 rfl (k := ?_)
    refine q_iret dX3_hasTrack_17 rfl (fun _ => rfl) ?_
    first | exact ⟨q_lf1 (by omega), rfl⟩ | exact ⟨q_lf0 (by omega), rfl⟩
  · skip
    refine q_iload_n (n := 5) dX3_hasTrack_4 rfl rfl ?_
    refine q_aload_n (n := 6) dX3_hasTrack_5 rfl rfl ?_
    refine q_getI (kI := 1) (n := 9) (by decide) dX3_hasTrack_6 rfl fX3_15 hp.1 rfl rfl ?_
    refine q_icmp_ge (n := 12) (t := 16) dX3_hasTrack_9 rfl (by decide) (fun h9 => ?_) (fun h9 => ?_)
    · skip
      refine q_iconst (n := 17) dX3_hasTrack_16 rfl (k := ?_)
      refine q_iret dX3_hasTrack_17 rfl (fun _ => rfl) ?_
      first | exact ⟨q_lf1 (by omega), rfl⟩ | exact ⟨q_lf0 (by omega), rfl⟩
    · skip
      refine q_iconst (n := 13) dX3_hasTrack_12 rfl (k := ?_)
      refine q_go (t := 17) dX3_hasTrack_13 (by decide) ?_
      refine q_iret dX3_hasTrack_17 rfl (fun _ => rfl) ?_
      first | exact ⟨q_lf1 (by omega), rfl⟩ | exact ⟨q_lf0 (by omega), rfl⟩
set_option maxRecDepth 100000 in
theorem zX3_hasVertex (p t : Int) (σ : q_S) (hp : q_Pic p) : q_Ct mX3_hasVertex shX [.inr (.inr p), .inl t] σ (fun r σ' => r = some (.inl (if 0 ≤ t ∧ t < σ p 2 then 1 else 0)) ∧ σ' = σ) := by
  refine q_ct 0 (by decide) rfl rfl ?_
  show q_WP mX3_hasVertex shX 0 [some (.inr (.inr p)), some (.inl t)] [] σ _
  refine q_iload_n (n := 1) dX3_hasVertex_0 rfl rfl ?_
  refine q_if_lt (n := 4) (t := 16) dX3_hasVertex_1 rfl (by decide) (fun h1 => ?_) (fun h1 => ?_)
  · skip
    refine q_iconst (n := 17) dX3_hasVertex_16 rfl (k := ?_)
    refine q_iret dX3_hasVertex_17 rfl (fun _ => rfl) ?_
    first | exact ⟨q_lf1 (by omega), rfl⟩ | exact ⟨q_lf0 (by omega), rfl⟩
  · skip
    refine q_iload_n (n := 5) dX3_hasVertex_4 rfl rfl ?_
    refine q_aload_n (n := 6) dX3_hasVertex_5 rfl rfl ?_
    refine q_getI (kI := 2) (n := 9) (by decide) dX3_hasVertex_6 rfl fX3_18 hp.1 rfl rfl ?_
    refine q_icmp_ge (n := 12) (t := 16) dX3_hasVertex_9 rfl (by decide) (fun h9 => ?_) (fun h9 => ?_)
    · skip
      refine q_iconst (n := 17) dX3_hasVertex_16 rfl (k := ?_)
      refine q_iret dX3_hasVertex_17 rfl (fun _ => rfl) ?_
      first | exact ⟨q_lf1 (by omega), rfl⟩ | exact ⟨q_lf0 (by omega), rfl⟩
    · skip
      refine q_iconst (n := 13) dX3_hasVertex_12 rfl (k := ?_)
      refine q_go (t := 17) dX3_hasVertex_13 (by decide) ?_
      refine q_iret dX3_hasVertex_17 rfl (fun _ => rfl) ?_
      first | exact ⟨q_lf1 (by omega), rfl⟩ | exact ⟨q_lf0 (by omega), rfl⟩
set_option maxRecDepth 100000 in
theorem zX7_isPoint (x y : Int) (σ : q_S) : q_Ct mX7_isPoint shX [.inl x, .inl y] σ (fun r σ' => r = some (.inl (if (-20 ≤ x ∧ x ≤ 20) ∧ -20 ≤ y ∧ y ≤ 20 then 1 else 0)) ∧ σ' = σ) := by
  refine q_ct 0 (by decide) rfl rfl ?_
  show q_WP mX7_isPoint shX 0 [some (.inl x), some (.inl y)] [] σ _
  refine q_iload_n (n := 1) dX7_isPoint_0 rfl rfl ?_
  refine q_bipush (n := 3) dX7_isPoint_1 rfl (k := ?_)
  refine q_icmp_lt (n := 6) (t := 28) dX7_isPoint_3 rfl (by decide) (fun h3 => ?_) (fun h3 => ?_)
  · skip
    refine q_iconst (n := 29) dX7_isPoint_28 rfl (k := ?_)
    refine q_iret dX7_isPoint_29 rfl (fun _ => rfl) ?_
    first | exact ⟨q_lf1 (by omega), rfl⟩ | exact ⟨q_lf0 (by omega), rfl⟩
  · skip
    refine q_iload_n (n := 7) dX7_isPoint_6 rfl rfl ?_
    refine q_bipush (n := 9) dX7_isPoint_7 rfl (k := ?_)
    refine q_icmp_gt (n := 12) (t := 28) dX7_isPoint_9 rfl (by decide) (fun h9 => ?_) (fun h9 => ?_)
    · skip
      refine q_iconst (n := 29) dX7_isPoint_28 rfl (k := ?_)
      refine q_iret dX7_isPoint_29 rfl (fun _ => rfl) ?_
      first | exact ⟨q_lf1 (by omega), rfl⟩ | exact ⟨q_lf0 (by omega), rfl⟩
    · skip
      refine q_iload_n (n := 13) dX7_isPoint_12 rfl rfl ?_
      refine q_bipush (n := 15) dX7_isPoint_13 rfl (k := ?_)
      refine q_icmp_lt (n := 18) (t := 28) dX7_isPoint_15 rfl (by decide) (fun h15 => ?_) (fun h15 => ?_)
      · skip
        refine q_iconst (n := 29) dX7_isPoint_28 rfl (k := ?_)
        refine q_iret dX7_isPoint_29 rfl (fun _ => rfl) ?_
        first | exact ⟨q_lf1 (by omega), rfl⟩ | exact ⟨q_lf0 (by omega), rfl⟩
      · skip
        refine q_iload_n (n := 19) dX7_isPoint_18 rfl rfl ?_
        refine q_bipush (n := 21) dX7_isPoint_19 rfl (k := ?_)
        refine q_icmp_gt (n := 24) (t := 28) dX7_isPoint_21 rfl (by decide) (fun h21 => ?_) (fun h21 => ?_)
        · skip
          refine q_iconst (n := 29) dX7_isPoint_28 rfl (k := ?_)
          refine q_iret dX7_isPoint_29 rfl (fun _ => rfl) ?_
          first | exact ⟨q_lf1 (by omega), rfl⟩ | exact ⟨q_lf0 (by omega), rfl⟩
        · skip
          refine q_iconst (n := 25) dX7_isPoint_24 rfl (k := ?_)
          refine q_go (t := 29) dX7_isPoint_25 (by decide) ?_
          refine q_iret dX7_isPoint_29 rfl (fun _ => rfl) ?_
          first | exact ⟨q_lf1 (by omega), rfl⟩ | exact ⟨q_lf0 (by omega), rfl⟩
set_option maxRecDepth 100000 in
theorem zX7_isAxis (x : Int) (σ : q_S) : q_Ct mX7_isAxis shX [.inl x] σ (fun r σ' => r = some (.inl (if x = 0 ∨ x = 1 then 1 else 0)) ∧ σ' = σ) := by
  refine q_ct 0 (by decide) rfl rfl ?_
  show q_WP mX7_isAxis shX 0 [some (.inl x)] [] σ _
  refine q_iload_n (n := 1) dX7_isAxis_0 rfl rfl ?_
  refine q_if_eq (n := 4) (t := 9) dX7_isAxis_1 rfl (by decide) (fun h1 => ?_) (fun h1 => ?_)
  · skip
    refine q_iconst (n := 10) dX7_isAxis_9 rfl (k := ?_)
    refine q_go (t := 14) dX7_isAxis_10 (by decide) ?_
    refine q_iret dX7_isAxis_14 rfl (fun _ => rfl) ?_
    first | exact ⟨q_lf1 (by omega), rfl⟩ | exact ⟨q_lf0 (by omega), rfl⟩
  · skip
    refine q_iload_n (n := 5) dX7_isAxis_4 rfl rfl ?_
    refine q_iconst (n := 6) dX7_isAxis_5 rfl (k := ?_)
    refine q_icmp_ne (n := 9) (t := 13) dX7_isAxis_6 rfl (by decide) (fun h6 => ?_) (fun h6 => ?_)
    · skip
      refine q_iconst (n := 14) dX7_isAxis_13 rfl (k := ?_)
      refine q_iret dX7_isAxis_14 rfl (fun _ => rfl) ?_
      first | exact ⟨q_lf1 (by omega), rfl⟩ | exact ⟨q_lf0 (by omega), rfl⟩
    · skip
      refine q_iconst (n := 10) dX7_isAxis_9 rfl (k := ?_)
      refine q_go (t := 14) dX7_isAxis_10 (by decide) ?_
      refine q_iret dX7_isAxis_14 rfl (fun _ => rfl) ?_
      first | exact ⟨q_lf1 (by omega), rfl⟩ | exact ⟨q_lf0 (by omega), rfl⟩
set_option maxRecDepth 100000 in
theorem zX7_isPart (x : Int) (σ : q_S) : q_Ct mX7_isPart shX [.inl x] σ (fun r σ' => r = some (.inl (if x = 0 ∨ x = 1 then 1 else 0)) ∧ σ' = σ) := by
  refine q_ct 0 (by decide) rfl rfl ?_
  show q_WP mX7_isPart shX 0 [some (.inl x)] [] σ _
  refine q_iload_n (n := 1) dX7_isPart_0 rfl rfl ?_
  refine q_if_eq (n := 4) (t := 9) dX7_isPart_1 rfl (by decide) (fun h1 => ?_) (fun h1 => ?_)
  · skip
    refine q_iconst (n := 10) dX7_isPart_9 rfl (k := ?_)
    refine q_go (t := 14) dX7_isPart_10 (by decide) ?_
    refine q_iret dX7_isPart_14 rfl (fun _ => rfl) ?_
    first | exact ⟨q_lf1 (by omega), rfl⟩ | exact ⟨q_lf0 (by omega), rfl⟩
  · skip
    refine q_iload_n (n := 5) dX7_isPart_4 rfl rfl ?_
    refine q_iconst (n := 6) dX7_isPart_5 rfl (k := ?_)
    refine q_icmp_ne (n := 9) (t := 13) dX7_isPart_6 rfl (by decide) (fun h6 => ?_) (fun h6 => ?_)
    · skip
      refine q_iconst (n := 14) dX7_isPart_13 rfl (k := ?_)
      refine q_iret dX7_isPart_14 rfl (fun _ => rfl) ?_
      first | exact ⟨q_lf1 (by omega), rfl⟩ | exact ⟨q_lf0 (by omega), rfl⟩
    · skip
      refine q_iconst (n := 10) dX7_isPart_9 rfl (k := ?_)
      refine q_go (t := 14) dX7_isPart_10 (by decide) ?_
      refine q_iret dX7_isPart_14 rfl (fun _ => rfl) ?_
      first | exact ⟨q_lf1 (by omega), rfl⟩ | exact ⟨q_lf0 (by omega), rfl⟩
set_option maxRecDepth 100000 in
theorem zX7_isKind (x : Int) (σ : q_S) : q_Ct mX7_isKind shX [.inl x] σ (fun r σ' => r = some (.inl (if 0 ≤ x ∧ x < 12 then 1 else 0)) ∧ σ' = σ) := by
  refine q_ct 0 (by decide) rfl rfl ?_
  show q_WP mX7_isKind shX 0 [some (.inl x)] [] σ _
  refine q_iload_n (n := 1) dX7_isKind_0 rfl rfl ?_
  refine q_if_lt (n := 4) (t := 14) dX7_isKind_1 rfl (by decide) (fun h1 => ?_) (fun h1 => ?_)
  · skip
    refine q_iconst (n := 15) dX7_isKind_14 rfl (k := ?_)
    refine q_iret dX7_isKind_15 rfl (fun _ => rfl) ?_
    first | exact ⟨q_lf1 (by omega), rfl⟩ | exact ⟨q_lf0 (by omega), rfl⟩
  · skip
    refine q_iload_n (n := 5) dX7_isKind_4 rfl rfl ?_
    refine q_bipush (n := 7) dX7_isKind_5 rfl (k := ?_)
    refine q_icmp_ge (n := 10) (t := 14) dX7_isKind_7 rfl (by decide) (fun h7 => ?_) (fun h7 => ?_)
    · skip
      refine q_iconst (n := 15) dX7_isKind_14 rfl (k := ?_)
      refine q_iret dX7_isKind_15 rfl (fun _ => rfl) ?_
      first | exact ⟨q_lf1 (by omega), rfl⟩ | exact ⟨q_lf0 (by omega), rfl⟩
    · skip
      refine q_iconst (n := 11) dX7_isKind_10 rfl (k := ?_)
      refine q_go (t := 15) dX7_isKind_11 (by decide) ?_
      refine q_iret dX7_isKind_15 rfl (fun _ => rfl) ?_
      first | exact ⟨q_lf1 (by omega), rfl⟩ | exact ⟨q_lf0 (by omega), rfl⟩
set_option maxRecDepth 100000 in
theorem zX7_isLaw (x : Int) (σ : q_S) : q_Ct mX7_isLaw shX [.inl x] σ (fun r σ' => r = some (.inl (if 0 ≤ x ∧ x < 3 then 1 else 0)) ∧ σ' = σ) := by
  refine q_ct 0 (by decide) rfl rfl ?_
  show q_WP mX7_isLaw shX 0 [some (.inl x)] [] σ _
  refine q_iload_n (n := 1) dX7_isLaw_0 rfl rfl ?_
  refine q_if_lt (n := 4) (t := 13) dX7_isLaw_1 rfl (by decide) (fun h1 => ?_) (fun h1 => ?_)
  · skip
    refine q_iconst (n := 14) dX7_isLaw_13 rfl (k := ?_)
    refine q_iret dX7_isLaw_14 rfl (fun _ => rfl) ?_
    first | exact ⟨q_lf1 (by omega), rfl⟩ | exact ⟨q_lf0 (by omega), rfl⟩
  · skip
    refine q_iload_n (n := 5) dX7_isLaw_4 rfl rfl ?_
    refine q_iconst (n := 6) dX7_isLaw_5 rfl (k := ?_)
    refine q_icmp_ge (n := 9) (t := 13) dX7_isLaw_6 rfl (by decide) (fun h6 => ?_) (fun h6 => ?_)
    · skip
      refine q_iconst (n := 14) dX7_isLaw_13 rfl (k := ?_)
      refine q_iret dX7_isLaw_14 rfl (fun _ => rfl) ?_
      first | exact ⟨q_lf1 (by omega), rfl⟩ | exact ⟨q_lf0 (by omega), rfl⟩
    · skip
      refine q_iconst (n := 10) dX7_isLaw_9 rfl (k := ?_)
      refine q_go (t := 14) dX7_isLaw_10 (by decide) ?_
      refine q_iret dX7_isLaw_14 rfl (fun _ => rfl) ?_
      first | exact ⟨q_lf1 (by omega), rfl⟩ | exact ⟨q_lf0 (by omega), rfl⟩
set_option maxRecDepth 100000 in
theorem zX7_isList (x : Int) (σ : q_S) : q_Ct mX7_isList shX [.inl x] σ (fun r σ' => r = some (.inl (if 0 ≤ x ∧ x < 3 then 1 else 0)) ∧ σ' = σ) := by
  refine q_ct 0 (by decide) rfl rfl ?_
  show q_WP mX7_isList shX 0 [some (.inl x)] [] σ _
  refine q_iload_n (n := 1) dX7_isList_0 rfl rfl ?_
  refine q_if_lt (n := 4) (t := 13) dX7_isList_1 rfl (by decide) (fun h1 => ?_) (fun h1 => ?_)
  · skip
    refine q_iconst (n := 14) dX7_isList_13 rfl (k := ?_)
    refine q_iret dX7_isList_14 rfl (fun _ => rfl) ?_
    first | exact ⟨q_lf1 (by omega), rfl⟩ | exact ⟨q_lf0 (by omega), rfl⟩
  · skip
    refine q_iload_n (n := 5) dX7_isList_4 rfl rfl ?_
    refine q_iconst (n := 6) dX7_isList_5 rfl (k := ?_)
    refine q_icmp_ge (n := 9) (t := 13) dX7_isList_6 rfl (by decide) (fun h6 => ?_) (fun h6 => ?_)
    · skip
      refine q_iconst (n := 14) dX7_isList_13 rfl (k := ?_)
      refine q_iret dX7_isList_14 rfl (fun _ => rfl) ?_
      first | exact ⟨q_lf1 (by omega), rfl⟩ | exact ⟨q_lf0 (by omega), rfl⟩
    · skip
      refine q_iconst (n := 10) dX7_isList_9 rfl (k := ?_)
      refine q_go (t := 14) dX7_isList_10 (by decide) ?_
      refine q_iret dX7_isList_14 rfl (fun _ => rfl) ?_
      first | exact ⟨q_lf1 (by omega), rfl⟩ | exact ⟨q_lf0 (by omega), rfl⟩
set_option maxRecDepth 100000 in
theorem zX7_numberOf (x y : Int) (σ : q_S) (h : 0 ≤ x ∧ x < 12 ∧ 0 ≤ y ∧ y < 5) : q_Ct mX7_numberOf shX [.inl x, .inl y] σ (fun r σ' => r = some (.inl (q_num.getD (5 * x + y).toNat 0)) ∧ σ' = σ) := by
  refine q_ct 0 (by decide) rfl rfl ?_
  show q_WP mX7_numberOf shX 0 [some (.inl x), some (.inl y)] [] σ _
  refine q_getNum (n := 3) dX7_numberOf_0 rfl sX7_343 ?_
  refine q_iconst (n := 4) dX7_numberOf_3 rfl (k := ?_)
  refine q_iload_n (n := 5) dX7_numberOf_4 rfl rfl ?_
  refine q_imulS (n := 6) dX7_numberOf_5 rfl ⟨by omega, by omega⟩ ?_
  refine q_iload_n (n := 7) dX7_numberOf_6 rfl rfl ?_
  refine q_iaddS (n := 8) dX7_numberOf_7 rfl ⟨by omega, by omega⟩ ?_
  refine q_ialNum (n := 9) dX7_numberOf_8 rfl ⟨by omega, by omega⟩ ?_
  refine q_iret dX7_numberOf_9 rfl (fun _ => rfl) ?_
  exact ⟨rfl, rfl⟩
set_option maxRecDepth 100000 in
theorem zX0_isStraight (c : Int) (σ : q_S) (hc : q_is shX c (.inl (0, [.inl 1, .inl 1, .inl 1, .inl 1]))) : q_Ct mX0_isStraight shX [.inr (.inr c)] σ (fun r σ' => r = some (.inl (if σ c 0 = 0 then 1 else 0)) ∧ σ' = σ) := by
  refine q_ct 0 (by decide) rfl rfl ?_
  show q_WP mX0_isStraight shX 0 [some (.inr (.inr c))] [] σ _
  refine q_aload_n (n := 1) dX0_isStraight_0 rfl rfl ?_
  refine q_getJ (kI := 0) (n := 4) dX0_isStraight_1 rfl fX0_7 hc rfl rfl ?_
  refine q_lconst (x := 0) (n := 5) dX0_isStraight_4 rfl (k := ?_)
  refine q_lcmp (n := 6) dX0_isStraight_5 rfl ?_
  refine q_if_ne (n := 9) (t := 13) dX0_isStraight_6 rfl (by decide) (fun h6 => ?_) (fun h6 => ?_)
  · have h6 := q_knet.mp h6
    refine q_iconst (n := 14) dX0_isStraight_13 rfl (k := ?_)
    refine q_iret dX0_isStraight_14 rfl (fun _ => rfl) ?_
    first | exact ⟨q_lf1 (by assumption), rfl⟩ | exact ⟨q_lf0 (by assumption), rfl⟩
  · have h6 := q_knef.mp h6
    refine q_iconst (n := 10) dX0_isStraight_9 rfl (k := ?_)
    refine q_go (t := 14) dX0_isStraight_10 (by decide) ?_
    refine q_iret dX0_isStraight_14 rfl (fun _ => rfl) ?_
    first | exact ⟨q_lf1 (by assumption), rfl⟩ | exact ⟨q_lf0 (by assumption), rfl⟩
