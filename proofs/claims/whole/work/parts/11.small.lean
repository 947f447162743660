set_option maxRecDepth 100000 in
theorem zJ13_signum_95d88 (sh : q_H) (x : Int) (σ : q_S) : q_Ct mJ13_signum_95d88 sh [.inr (.inl x)] σ (fun r σ' => r = some (.inl (sgn x)) ∧ σ' = σ) := by
  refine q_ct 0 (by decide) rfl rfl ?_
  show q_WP mJ13_signum_95d88 sh 0 [some (.inr (.inl x)), none] [] σ _
  refine q_know (fun _ _ hk => ?_)
  have hx : q_i64 x := hk 0 (.inr (.inl x)) rfl
  refine q_lload_n (n := 1) dJ13_signum_95d88_0 rfl rfl ?_
  refine q_bipush (n := 3) dJ13_signum_95d88_1 rfl (k := ?_)
  refine q_lshr (n := 4) dJ13_signum_95d88_3 rfl ?_
  refine q_lload_n (n := 5) dJ13_signum_95d88_4 rfl rfl ?_
  refine q_lneg (n := 6) dJ13_signum_95d88_5 rfl ?_
  refine q_bipush (n := 8) dJ13_signum_95d88_6 rfl (k := ?_)
  refine q_lushr (n := 9) dJ13_signum_95d88_8 rfl ?_
  refine q_lor (n := 10) dJ13_signum_95d88_9 rfl ?_
  refine q_l2i (n := 11) dJ13_signum_95d88_10 rfl ?_
  refine q_iret dJ13_signum_95d88_11 rfl (fun _ => rfl) ?_
  exact ⟨by rw [sgn_ok hx], rfl⟩
set_option maxRecDepth 100000 in
theorem zJ6_bitCount_0f7a4 (sh : q_H) (x : Int) (σ : q_S) (hx : 0 ≤ x ∧ x < 256) : q_Ct mJ6_bitCount_0f7a4 sh [.inl x] σ (fun r σ' => r = some (.inl (popc x)) ∧ σ' = σ) := by
  refine q_ct 0 (by decide) rfl rfl ?_
  show q_WP mJ6_bitCount_0f7a4 sh 0 [some (.inl x)] [] σ _
  refine q_iload_n (n := 1) dJ6_bitCount_0f7a4_0 rfl rfl ?_
  refine q_iload_n (n := 2) dJ6_bitCount_0f7a4_1 rfl rfl ?_
  refine q_iconst (n := 3) dJ6_bitCount_0f7a4_2 rfl (k := ?_)
  refine q_iushr (n := 4) dJ6_bitCount_0f7a4_3 rfl ?_
  refine q_ldcw (x := 1431655765) (n := 7) dJ6_bitCount_0f7a4_4 rfl kJ6_265 (k := ?_)
  refine q_iand (n := 8) dJ6_bitCount_0f7a4_7 rfl ?_
  refine q_isub (n := 9) dJ6_bitCount_0f7a4_8 rfl ?_
  refine q_istore_n (n := 10) dJ6_bitCount_0f7a4_9 rfl (by decide) q_s1_0 ?_
  refine q_iload_n (n := 11) dJ6_bitCount_0f7a4_10 rfl rfl ?_
  refine q_ldcw (x := 858993459) (n := 14) dJ6_bitCount_0f7a4_11 rfl kJ6_266 (k := ?_)
  refine q_iand (n := 15) dJ6_bitCount_0f7a4_14 rfl ?_
  refine q_iload_n (n := 16) dJ6_bitCount_0f7a4_15 rfl rfl ?_
  refine q_iconst (n := 17) dJ6_bitCount_0f7a4_16 rfl (k := ?_)
  refine q_iushr (n := 18) dJ6_bitCount_0f7a4_17 rfl ?_
  refine q_ldcw (x := 858993459) (n := 21) dJ6_bitCount_0f7a4_18 rfl kJ6_266 (k := ?_)
  refine q_iand (n := 22) dJ6_bitCount_0f7a4_21 rfl ?_
  refine q_iadd (n := 23) dJ6_bitCount_0f7a4_22 rfl ?_
  refine q_istore_n (n := 24) dJ6_bitCount_0f7a4_23 rfl (by decide) q_s1_0 ?_
  refine q_iload_n (n := 25) dJ6_bitCount_0f7a4_24 rfl rfl ?_
  refine q_iload_n (n := 26) dJ6_bitCount_0f7a4_25 rfl rfl ?_
  refine q_iconst (n := 27) dJ6_bitCount_0f7a4_26 rfl (k := ?_)
  refine q_iushr (n := 28) dJ6_bitCount_0f7a4_27 rfl ?_
  refine q_iadd (n := 29) dJ6_bitCount_0f7a4_28 rfl ?_
  refine q_ldcw (x := 252645135) (n := 32) dJ6_bitCount_0f7a4_29 rfl kJ6_267 (k := ?_)
  refine q_iand (n := 33) dJ6_bitCount_0f7a4_32 rfl ?_
  refine q_istore_n (n := 34) dJ6_bitCount_0f7a4_33 rfl (by decide) q_s1_0 ?_
  refine q_iload_n (n := 35) dJ6_bitCount_0f7a4_34 rfl rfl ?_
  refine q_iload_n (n := 36) dJ6_bitCount_0f7a4_35 rfl rfl ?_
  refine q_bipush (n := 38) dJ6_bitCount_0f7a4_36 rfl (k := ?_)
  refine q_iushr (n := 39) dJ6_bitCount_0f7a4_38 rfl ?_
  refine q_iadd (n := 40) dJ6_bitCount_0f7a4_39 rfl ?_
  refine q_istore_n (n := 41) dJ6_bitCount_0f7a4_40 rfl (by decide) q_s1_0 ?_
  refine q_iload_n (n := 42) dJ6_bitCount_0f7a4_41 rfl rfl ?_
  refine q_iload_n (n := 43) dJ6_bitCount_0f7a4_42 rfl rfl ?_
  refine q_bipush (n := 45) dJ6_bitCount_0f7a4_43 rfl (k := ?_)
  refine q_iushr (n := 46) dJ6_bitCount_0f7a4_45 rfl ?_
  refine q_iadd (n := 47) dJ6_bitCount_0f7a4_46 rfl ?_
  refine q_istore_n (n := 48) dJ6_bitCount_0f7a4_47 rfl (by decide) q_s1_0 ?_
  refine q_iload_n (n := 49) dJ6_bitCount_0f7a4_48 rfl rfl ?_
  refine q_bipush (n := 51) dJ6_bitCount_0f7a4_49 rfl (k := ?_)
  refine q_iand (n := 52) dJ6_bitCount_0f7a4_51 rfl ?_
  refine q_iret dJ6_bitCount_0f7a4_52 rfl (fun _ => rfl) ?_
  refine ⟨?_, rfl⟩
  rw [← bcE_ok hx]
  rfl
set_option maxRecDepth 100000 in
theorem zX3_hasTrack (p t : Int) (σ : q_S) (hp : q_Pic p) : q_Ct mX3_hasTrack shX [.inr (.inr p), .inl t] σ (fun r σ' => r = some (.inl (if 0 ≤ t ∧ t < σ p 1 then 1 else 0)) ∧ σ' = σ) := by
  refine q_ct 0 (by decide) rfl rfl ?_
  show q_WP mX3_hasTrack shX 0 [some (.inr (.inr p)), some (.inl t)] [] σ _
  refine q_iload_n (n := 1) dX3_hasTrack_0 rfl rfl ?_
  refine q_if_lt (n := 4) (t := 16) dX3_hasTrack_1 rfl (by decide) (fun h1 => ?_) (fun h1 => ?_)
  · skip
    refine q_iconst (n := 17) dX3_hasTrack_16 rfl (k := ?_)
    refine q_iret dX3_hasTrack_17 rfl (fun _ => rfl) ?_
    first | exact ⟨q_lf1 (by omega), rfl⟩ | exact ⟨q_lf0 (by omega), rfl⟩
  · skip
    refine q_iload_n (n := 5) dX3_hasTrack_4 rfl rfl ?_
    refine q_aload_n (n := 6) dX3_hasTrack_5 rfl rfl ?_
    refine q_getI (kI := 1) (n := 9) (by decide) dX3_hasTrack_6 rfl fX3_15 hp.1 rfl rfl ?_
    refine q_icmp_ge (n := 12) (t := 16) dX3_hasTrack_9 rfl (by decide) (fun h9 => ?_) (fun h9 => ?_)
    · skip
      refine q_iconst (n := 17) dX3_hasTrack_16 rfl (k := ?_)
      refine q_iret dX3_hasTrack_17 rfl (fun _ => rfl) ?_
      first | exact ⟨q_lf1 (by omega), rfl⟩ | exact ⟨q_lf0 (by omega), rfl⟩
    · skip
      refine q_iconst (n := 13) dX3_hasTrack_12 rfl (k := ?_)
      refine q_go (t := 17) dX3_hasTrack_13 (by decide) ?_
      refine q_iret dX3_hasTrack_17 rfl (fun _ => rfl) ?_
      first | exact ⟨q_lf1 (by omega), rfl⟩ | exact ⟨q_lf0 (by omega), rfl⟩
set_option maxRecDepth 100000 in
theorem zX3_hasVertex (p t : Int) (σ : q_S) (hp : q_Pic p) : q_Ct mX3_hasVertex shX [.inr (.inr p), .inl t] σ (fun r σ' => r = some (.inl (if 0 ≤ t ∧ t < σ p 2 then 1 else 0)) ∧ σ' = σ) := by
  refine q_ct 0 (by decide) rfl rfl ?_
  show q_WP mX3_hasVertex shX 0 [some (.inr (.inr p)), some (.inl t)] [] σ _
  refine q_iload_n (n := 1) dX3_hasVertex_0 rfl rfl ?_
  refine q_if_lt (n := 4) (t := 16) dX3_hasVertex_1 rfl (by decide) (fun h1 => ?_) (fun h1 => ?_)
  · skip
    refine q_iconst (n := 17) dX3_hasVertex_16 rfl (k := ?_)
    refine q_iret dX3_hasVertex_17 rfl (fun _ => rfl) ?_
    first | exact ⟨q_lf1 (by omega), rfl⟩ | exact ⟨q_lf0 (by omega), rfl⟩
  · skip
    refine q_iload_n (n := 5) dX3_hasVertex_4 rfl rfl ?_
    refine q_aload_n (n := 6) dX3_hasVertex_5 rfl rfl ?_
    refine q_getI (kI := 2) (n := 9) (by decide) dX3_hasVertex_6 rfl fX3_18 hp.1 rfl rfl ?_
    refine q_icmp_ge (n := 12) (t := 16) dX3_hasVertex_9 rfl (by decide) (fun h9 => ?_) (fun h9 => ?_)
    · skip
      refine q_iconst (n := 17) dX3_hasVertex_16 rfl (k := ?_)
      refine q_iret dX3_hasVertex_17 rfl (fun _ => rfl) ?_
      first | exact ⟨q_lf1 (by omega), rfl⟩ | exact ⟨q_lf0 (by omega), rfl⟩
    · skip
      refine q_iconst (n := 13) dX3_hasVertex_12 rfl (k := ?_)
      refine q_go (t := 17) dX3_hasVertex_13 (by decide) ?_
      refine q_iret dX3_hasVertex_17 rfl (fun _ => rfl) ?_
      first | exact ⟨q_lf1 (by omega), rfl⟩ | exact ⟨q_lf0 (by omega), rfl⟩
set_option maxRecDepth 100000 in
theorem zX7_isPoint (x y : Int) (σ : q_S) : q_Ct mX7_isPoint shX [.inl x, .inl y] σ (fun r σ' => r = some (.inl (if (-20 ≤ x ∧ x ≤ 20) ∧ -20 ≤ y ∧ y ≤ 20 then 1 else 0)) ∧ σ' = σ) := by
  refine q_ct 0 (by decide) rfl rfl ?_
  show q_WP mX7_isPoint shX 0 [some (.inl x), some (.inl y)] [] σ _
  refine q_iload_n (n := 1) dX7_isPoint_0 rfl rfl ?_
  refine q_bipush (n := 3) dX7_isPoint_1 rfl (k := ?_)
  refine q_icmp_lt (n := 6) (t := 28) dX7_isPoint_3 rfl (by decide) (fun h3 => ?_) (fun h3 => ?_)
  · skip
    refine q_iconst (n := 29) dX7_isPoint_28 rfl (k := ?_)
    refine q_iret dX7_isPoint_29 rfl (fun _ => rfl) ?_
    first | exact ⟨q_lf1 (by omega), rfl⟩ | exact ⟨q_lf0 (by omega), rfl⟩
  · skip
    refine q_iload_n (n := 7) dX7_isPoint_6 rfl rfl ?_
    refine q_bipush (n := 9) dX7_isPoint_7 rfl (k := ?_)
    refine q_icmp_gt (n := 12) (t := 28) dX7_isPoint_9 rfl (by decide) (fun h9 => ?_) (fun h9 => ?_)
    · skip
      refine q_iconst (n := 29) dX7_isPoint_28 rfl (k := ?_)
      refine q_iret dX7_isPoint_29 rfl (fun _ => rfl) ?_
      first | exact ⟨q_lf1 (by omega), rfl⟩ | exact ⟨q_lf0 (by omega), rfl⟩
    · skip
      refine q_iload_n (n := 13) dX7_isPoint_12 rfl rfl ?_
      refine q_bipush (n := 15) dX7_isPoint_13 rfl (k := ?_)
      refine q_icmp_lt (n := 18) (t := 28) dX7_isPoint_15 rfl (by decide) (fun h15 => ?_) (fun h15 => ?_)
      · skip
        refine q_iconst (n := 29) dX7_isPoint_28 rfl (k := ?_)
        refine q_iret dX7_isPoint_29 rfl (fun _ => rfl) ?_
        first | exact ⟨q_lf1 (by omega), rfl⟩ | exact ⟨q_lf0 (by omega), rfl⟩
      · skip
        refine q_iload_n (n := 19) dX7_isPoint_18 rfl rfl ?_
        refine q_bipush (n := 21) dX7_isPoint_19 rfl (k := ?_)
        refine q_icmp_gt (n := 24) (t := 28) dX7_isPoint_21 rfl (by decide) (fun h21 => ?_) (fun h21 => ?_)
        · skip
          refine q_iconst (n := 29) dX7_isPoint_28 rfl (k := ?_)
          refine q_iret dX7_isPoint_29 rfl (fun _ => rfl) ?_
          first | exact ⟨q_lf1 (by omega), rfl⟩ | exact ⟨q_lf0 (by omega), rfl⟩
        · skip
          refine q_iconst (n := 25) dX7_isPoint_24 rfl (k := ?_)
          refine q_go (t := 29) dX7_isPoint_25 (by decide) ?_
          refine q_iret dX7_isPoint_29 rfl (fun _ => rfl) ?_
          first | exact ⟨q_lf1 (by omega), rfl⟩ | exact ⟨q_lf0 (by omega), rfl⟩
set_option maxRecDepth 100000 in
theorem zX7_isAxis (x : Int) (σ : q_S) : q_Ct mX7_isAxis shX [.inl x] σ (fun r σ' => r = some (.inl (if x = 0 ∨ x = 1 then 1 else 0)) ∧ σ' = σ) := by
  refine q_ct 0 (by decide) rfl rfl ?_
  show q_WP mX7_isAxis shX 0 [some (.inl x)] [] σ _
  refine q_iload_n (n := 1) dX7_isAxis_0 rfl rfl ?_
  refine q_if_eq (n := 4) (t := 9) dX7_isAxis_1 rfl (by decide) (fun h1 => ?_) (fun h1 => ?_)
  · skip
    refine q_iconst (n := 10) dX7_isAxis_9 rfl (k := ?_)
    refine q_go (t := 14) dX7_isAxis_10 (by decide) ?_
    refine q_iret dX7_isAxis_14 rfl (fun _ => rfl) ?_
    first | exact ⟨q_lf1 (by omega), rfl⟩ | exact ⟨q_lf0 (by omega), rfl⟩
  · skip
    refine q_iload_n (n := 5) dX7_isAxis_4 rfl rfl ?_
    refine q_iconst (n := 6) dX7_isAxis_5 rfl (k := ?_)
    refine q_icmp_ne (n := 9) (t := 13) dX7_isAxis_6 rfl (by decide) (fun h6 => ?_) (fun h6 => ?_)
    · skip
      refine q_iconst (n := 14) dX7_isAxis_13 rfl (k := ?_)
      refine q_iret dX7_isAxis_14 rfl (fun _ => rfl) ?_
      first | exact ⟨q_lf1 (by omega), rfl⟩ | exact ⟨q_lf0 (by omega), rfl⟩
    · skip
      refine q_iconst (n := 10) dX7_isAxis_9 rfl (k := ?_)
      refine q_go (t := 14) dX7_isAxis_10 (by decide) ?_
      refine q_iret dX7_isAxis_14 rfl (fun _ => rfl) ?_
      first | exact ⟨q_lf1 (by omega), rfl⟩ | exact ⟨q_lf0 (by omega), rfl⟩
set_option maxRecDepth 100000 in
theorem zX7_isPart (x : Int) (σ : q_S) : q_Ct mX7_isPart shX [.inl x] σ (fun r σ' => r = some (.inl (if x = 0 ∨ x = 1 then 1 else 0)) ∧ σ' = σ) := by
  refine q_ct 0 (by decide) rfl rfl ?_
  show q_WP mX7_isPart shX 0 [some (.inl x)] [] σ _
  refine q_iload_n (n := 1) dX7_isPart_0 rfl rfl ?_
  refine q_if_eq (n := 4) (t := 9) dX7_isPart_1 rfl (by decide) (fun h1 => ?_) (fun h1 => ?_)
  · skip
    refine q_iconst (n := 10) dX7_isPart_9 rfl (k := ?_)
    refine q_go (t := 14) dX7_isPart_10 (by decide) ?_
    refine q_iret dX7_isPart_14 rfl (fun _ => rfl) ?_
    first | exact ⟨q_lf1 (by omega), rfl⟩ | exact ⟨q_lf0 (by omega), rfl⟩
  · skip
    refine q_iload_n (n := 5) dX7_isPart_4 rfl rfl ?_
    refine q_iconst (n := 6) dX7_isPart_5 rfl (k := ?_)
    refine q_icmp_ne (n := 9) (t := 13) dX7_isPart_6 rfl (by decide) (fun h6 => ?_) (fun h6 => ?_)
    · skip
      refine q_iconst (n := 14) dX7_isPart_13 rfl (k := ?_)
      refine q_iret dX7_isPart_14 rfl (fun _ => rfl) ?_
      first | exact ⟨q_lf1 (by omega), rfl⟩ | exact ⟨q_lf0 (by omega), rfl⟩
    · skip
      refine q_iconst (n := 10) dX7_isPart_9 rfl (k := ?_)
      refine q_go (t := 14) dX7_isPart_10 (by decide) ?_
      refine q_iret dX7_isPart_14 rfl (fun _ => rfl) ?_
      first | exact ⟨q_lf1 (by omega), rfl⟩ | exact ⟨q_lf0 (by omega), rfl⟩
set_option maxRecDepth 100000 in
theorem zX7_isKind (x : Int) (σ : q_S) : q_Ct mX7_isKind shX [.inl x] σ (fun r σ' => r = some (.inl (if 0 ≤ x ∧ x < 12 then 1 else 0)) ∧ σ' = σ) := by
  refine q_ct 0 (by decide) rfl rfl ?_
  show q_WP mX7_isKind shX 0 [some (.inl x)] [] σ _
  refine q_iload_n (n := 1) dX7_isKind_0 rfl rfl ?_
  refine q_if_lt (n := 4) (t := 14) dX7_isKind_1 rfl (by decide) (fun h1 => ?_) (fun h1 => ?_)
  · skip
    refine q_iconst (n := 15) dX7_isKind_14 rfl (k := ?_)
    refine q_iret dX7_isKind_15 rfl (fun _ => rfl) ?_
    first | exact ⟨q_lf1 (by omega), rfl⟩ | exact ⟨q_lf0 (by omega), rfl⟩
  · skip
    refine q_iload_n (n := 5) dX7_isKind_4 rfl rfl ?_
    refine q_bipush (n := 7) dX7_isKind_5 rfl (k := ?_)
    refine q_icmp_ge (n := 10) (t := 14) dX7_isKind_7 rfl (by decide) (fun h7 => ?_) (fun h7 => ?_)
    · skip
      refine q_iconst (n := 15) dX7_isKind_14 rfl (k := ?_)
      refine q_iret dX7_isKind_15 rfl (fun _ => rfl) ?_
      first | exact ⟨q_lf1 (by omega), rfl⟩ | exact ⟨q_lf0 (by omega), rfl⟩
    · skip
      refine q_iconst (n := 11) dX7_isKind_10 rfl (k := ?_)
      refine q_go (t := 15) dX7_isKind_11 (by decide) ?_
      refine q_iret dX7_isKind_15 rfl (fun _ => rfl) ?_
      first | exact ⟨q_lf1 (by omega), rfl⟩ | exact ⟨q_lf0 (by omega), rfl⟩
set_option maxRecDepth 100000 in
theorem zX7_isLaw (x : Int) (σ : q_S) : q_Ct mX7_isLaw shX [.inl x] σ (fun r σ' => r = some (.inl (if 0 ≤ x ∧ x < 3 then 1 else 0)) ∧ σ' = σ) := by
  refine q_ct 0 (by decide) rfl rfl ?_
  show q_WP mX7_isLaw shX 0 [some (.inl x)] [] σ _
  refine q_iload_n (n := 1) dX7_isLaw_0 rfl rfl ?_
  refine q_if_lt (n := 4) (t := 13) dX7_isLaw_1 rfl (by decide) (fun h1 => ?_) (fun h1 => ?_)
  · skip
    refine q_iconst (n := 14) dX7_isLaw_13 rfl (k := ?_)
    refine q_iret dX7_isLaw_14 rfl (fun _ => rfl) ?_
    first | exact ⟨q_lf1 (by omega), rfl⟩ | exact ⟨q_lf0 (by omega), rfl⟩
  · skip
    refine q_iload_n (n := 5) dX7_isLaw_4 rfl rfl ?_
    refine q_iconst (n := 6) dX7_isLaw_5 rfl (k := ?_)
    refine q_icmp_ge (n := 9) (t := 13) dX7_isLaw_6 rfl (by decide) (fun h6 => ?_) (fun h6 => ?_)
    · skip
      refine q_iconst (n := 14) dX7_isLaw_13 rfl (k := ?_)
      refine q_iret dX7_isLaw_14 rfl (fun _ => rfl) ?_
      first | exact ⟨q_lf1 (by omega), rfl⟩ | exact ⟨q_lf0 (by omega), rfl⟩
    · skip
      refine q_iconst (n := 10) dX7_isLaw_9 rfl (k := ?_)
      refine q_go (t := 14) dX7_isLaw_10 (by decide) ?_
      refine q_iret dX7_isLaw_14 rfl (fun _ => rfl) ?_
      first | exact ⟨q_lf1 (by omega), rfl⟩ | exact ⟨q_lf0 (by omega), rfl⟩
set_option maxRecDepth 100000 in
theorem zX7_isList (x : Int) (σ : q_S) : q_Ct mX7_isList shX [.inl x] σ (fun r σ' => r = some (.inl (if 0 ≤ x ∧ x < 3 then 1 else 0)) ∧ σ' = σ) := by
  refine q_ct 0 (by decide) rfl rfl ?_
  show q_WP mX7_isList shX 0 [some (.inl x)] [] σ _
  refine q_iload_n (n := 1) dX7_isList_0 rfl rfl ?_
  refine q_if_lt (n := 4) (t := 13) dX7_isList_1 rfl (by decide) (fun h1 => ?_) (fun h1 => ?_)
  · skip
    refine q_iconst (n := 14) dX7_isList_13 rfl (k := ?_)
    refine q_iret dX7_isList_14 rfl (fun _ => rfl) ?_
    first | exact ⟨q_lf1 (by omega), rfl⟩ | exact ⟨q_lf0 (by omega), rfl⟩
  · skip
    refine q_iload_n (n := 5) dX7_isList_4 rfl rfl ?_
    refine q_iconst (n := 6) dX7_isList_5 rfl (k := ?_)
    refine q_icmp_ge (n := 9) (t := 13) dX7_isList_6 rfl (by decide) (fun h6 => ?_) (fun h6 => ?_)
    · skip
      refine q_iconst (n := 14) dX7_isList_13 rfl (k := ?_)
      refine q_iret dX7_isList_14 rfl (fun _ => rfl) ?_
      first | exact ⟨q_lf1 (by omega), rfl⟩ | exact ⟨q_lf0 (by omega), rfl⟩
    · skip
      refine q_iconst (n := 10) dX7_isList_9 rfl (k := ?_)
      refine q_go (t := 14) dX7_isList_10 (by decide) ?_
      refine q_iret dX7_isList_14 rfl (fun _ => rfl) ?_
      first | exact ⟨q_lf1 (by omega), rfl⟩ | exact ⟨q_lf0 (by omega), rfl⟩
set_option maxRecDepth 100000 in
theorem zX7_numberOf (x y : Int) (σ : q_S) (h : 0 ≤ x ∧ x < 12 ∧ 0 ≤ y ∧ y < 5) : q_Ct mX7_numberOf shX [.inl x, .inl y] σ (fun r σ' => r = some (.inl (q_num.getD (5 * x + y).toNat 0)) ∧ σ' = σ) := by
  refine q_ct 0 (by decide) rfl rfl ?_
  show q_WP mX7_numberOf shX 0 [some (.inl x), some (.inl y)] [] σ _
  refine q_getNum (n := 3) dX7_numberOf_0 rfl sX7_343 ?_
  refine q_iconst (n := 4) dX7_numberOf_3 rfl (k := ?_)
  refine q_iload_n (n := 5) dX7_numberOf_4 rfl rfl ?_
  refine q_imulS (n := 6) dX7_numberOf_5 rfl ⟨by omega, by omega⟩ ?_
  refine q_iload_n (n := 7) dX7_numberOf_6 rfl rfl ?_
  refine q_iaddS (n := 8) dX7_numberOf_7 rfl ⟨by omega, by omega⟩ ?_
  refine q_ialNum (n := 9) dX7_numberOf_8 rfl ⟨by omega, by omega⟩ ?_
  refine q_iret dX7_numberOf_9 rfl (fun _ => rfl) ?_
  exact ⟨rfl, rfl⟩
set_option maxRecDepth 100000 in
theorem zX7_isNeutral (x : Int) (σ : q_S) : q_Ct mX7_isNeutral shX [.inl x] σ (fun r σ' => r = some (.inl (if (0 ≤ x ∧ x < 12) ∧ q_num.getD (5 * x + 0).toNat 0 = 0 then 1 else 0)) ∧ σ' = σ) := by
  refine q_ct 0 (by decide) rfl rfl ?_
  show q_WP mX7_isNeutral shX 0 [some (.inl x)] [] σ _
  refine q_iload_n (n := 1) dX7_isNeutral_0 rfl rfl ?_
  refine q_c1D (n := 4) dX7_isNeutral_1 rfl (zX7_isKind _ _) vX7_isKind lX7_150 rfl rfl ?_
  refine q_if_eq (n := 7) (t := 19) dX7_isNeutral_4 rfl (by decide) (fun h4 => ?_) (fun h4 => ?_)
  · have h4 := q_b0.mp h4
    refine q_iconst (n := 20) dX7_isNeutral_19 rfl (k := ?_)
    refine q_iret dX7_isNeutral_20 rfl (fun _ => rfl) ?_
    first | exact ⟨q_lf1 (by first | assumption | omega | simp_all), rfl⟩ | exact ⟨q_lf0 (by first | assumption | omega | simp_all), rfl⟩
  · have h4 := q_b1.mp h4
    refine q_iload_n (n := 8) dX7_isNeutral_7 rfl rfl ?_
    refine q_iconst (n := 9) dX7_isNeutral_8 rfl (k := ?_)
    refine q_c2D (n := 12) dX7_isNeutral_9 rfl (zX7_numberOf _ _ _ (by omega)) vX7_numberOf lX7_153 rfl rfl ?_
    refine q_if_ne (n := 15) (t := 19) dX7_isNeutral_12 rfl (by decide) (fun h12 => ?_) (fun h12 => ?_)
    · skip
      refine q_iconst (n := 20) dX7_isNeutral_19 rfl (k := ?_)
      refine q_iret dX7_isNeutral_20 rfl (fun _ => rfl) ?_
      first | exact ⟨q_lf1 (by first | assumption | omega | simp_all), rfl⟩ | exact ⟨q_lf0 (by first | assumption | omega | simp_all), rfl⟩
    · skip
      refine q_iconst (n := 16) dX7_isNeutral_15 rfl (k := ?_)
      refine q_go (t := 20) dX7_isNeutral_16 (by decide) ?_
      refine q_iret dX7_isNeutral_20 rfl (fun _ => rfl) ?_
      first | exact ⟨q_lf1 (by first | assumption | omega | simp_all), rfl⟩ | exact ⟨q_lf0 (by first | assumption | omega | simp_all), rfl⟩
set_option maxRecDepth 100000 in
theorem zX0_isStraight (c : Int) (σ : q_S) (hc : q_is shX c (.inl (0, [.inl 1, .inl 1, .inl 1, .inl 1]))) : q_Ct mX0_isStraight shX [.inr (.inr c)] σ (fun r σ' => r = some (.inl (if σ c 0 = 0 then 1 else 0)) ∧ σ' = σ) := by
  refine q_ct 0 (by decide) rfl rfl ?_
  show q_WP mX0_isStraight shX 0 [some (.inr (.inr c))] [] σ _
  refine q_aload_n (n := 1) dX0_isStraight_0 rfl rfl ?_
  refine q_getJ (kI := 0) (n := 4) dX0_isStraight_1 rfl fX0_7 hc rfl rfl ?_
  refine q_lconst (x := 0) (n := 5) dX0_isStraight_4 rfl (k := ?_)
  refine q_lcmp (n := 6) dX0_isStraight_5 rfl ?_
  refine q_if_ne (n := 9) (t := 13) dX0_isStraight_6 rfl (by decide) (fun h6 => ?_) (fun h6 => ?_)
  · have h6 := q_knet.mp h6
    refine q_iconst (n := 14) dX0_isStraight_13 rfl (k := ?_)
    refine q_iret dX0_isStraight_14 rfl (fun _ => rfl) ?_
    first | exact ⟨q_lf1 (by first | assumption | omega | simp_all), rfl⟩ | exact ⟨q_lf0 (by first | assumption | omega | simp_all), rfl⟩
  · have h6 := q_knef.mp h6
    refine q_iconst (n := 10) dX0_isStraight_9 rfl (k := ?_)
    refine q_go (t := 14) dX0_isStraight_10 (by decide) ?_
    refine q_iret dX0_isStraight_14 rfl (fun _ => rfl) ?_
    first | exact ⟨q_lf1 (by first | assumption | omega | simp_all), rfl⟩ | exact ⟨q_lf0 (by first | assumption | omega | simp_all), rfl⟩
set_option maxRecDepth 100000 in
theorem zX0_turn (c : Int) (σ : q_S) (hc : q_is shX c (.inl (0, [.inl 1, .inl 1, .inl 1, .inl 1]))) : q_Ct mX0_turn shX [.inr (.inr c)] σ (fun r σ' => r = some (.inl (sgn (σ c 0))) ∧ σ' = σ) := by
  refine q_ct 0 (by decide) rfl rfl ?_
  show q_WP mX0_turn shX 0 [some (.inr (.inr c))] [] σ _
  refine q_aload_n (n := 1) dX0_turn_0 rfl rfl ?_
  refine q_getJ (kI := 0) (n := 4) dX0_turn_1 rfl fX0_7 hc rfl rfl ?_
  refine q_c1D (n := 7) dX0_turn_4 rfl (zJ13_signum_95d88 _ _ _) vJ13_signum_95d88 lX0_24 rfl rfl ?_
  refine q_iret dX0_turn_7 rfl (fun _ => rfl) ?_
  exact ⟨rfl, rfl⟩
set_option maxRecDepth 100000 in
theorem zX5_holdsNothing (c : Int) (σ : q_S) (hc : q_Row c) : q_Ct mX5_holdsNothing shX [.inr (.inr c)] σ (fun r σ' => r = some (.inl (if σ c 1 < 0 then 1 else 0)) ∧ σ' = σ) := by
  refine q_ct 0 (by decide) rfl rfl ?_
  show q_WP mX5_holdsNothing shX 0 [some (.inr (.inr c))] [] σ _
  refine q_aload_n (n := 1) dX5_holdsNothing_0 rfl rfl ?_
  refine q_getI (kI := 1) (n := 4) (by decide) dX5_holdsNothing_1 rfl fX5_15 hc.1 rfl rfl ?_
  refine q_if_ge (n := 7) (t := 11) dX5_holdsNothing_4 rfl (by decide) (fun h4 => ?_) (fun h4 => ?_)
  · skip
    refine q_iconst (n := 12) dX5_holdsNothing_11 rfl (k := ?_)
    refine q_iret dX5_holdsNothing_12 rfl (fun _ => rfl) ?_
    first | exact ⟨q_lf1 (by omega), rfl⟩ | exact ⟨q_lf0 (by omega), rfl⟩
  · skip
    refine q_iconst (n := 8) dX5_holdsNothing_7 rfl (k := ?_)
    refine q_go (t := 12) dX5_holdsNothing_8 (by decide) ?_
    refine q_iret dX5_holdsNothing_12 rfl (fun _ => rfl) ?_
    first | exact ⟨q_lf1 (by omega), rfl⟩ | exact ⟨q_lf0 (by omega), rfl⟩
set_option maxRecDepth 100000 in
theorem zX5_hasPlace (c i : Int) (σ : q_S) (hc : q_Row c) : q_Ct mX5_hasPlace shX [.inr (.inr c), .inl i] σ (fun r σ' => r = some (.inl (if 0 ≤ i ∧ i < σ c 1 then 1 else 0)) ∧ σ' = σ) := by
  refine q_ct 0 (by decide) rfl rfl ?_
  show q_WP mX5_hasPlace shX 0 [some (.inr (.inr c)), some (.inl i)] [] σ _
  refine q_iload_n (n := 1) dX5_hasPlace_0 rfl rfl ?_
  refine q_if_lt (n := 4) (t := 16) dX5_hasPlace_1 rfl (by decide) (fun h1 => ?_) (fun h1 => ?_)
  · skip
    refine q_iconst (n := 17) dX5_hasPlace_16 rfl (k := ?_)
    refine q_iret dX5_hasPlace_17 rfl (fun _ => rfl) ?_
    first | exact ⟨q_lf1 (by omega), rfl⟩ | exact ⟨q_lf0 (by omega), rfl⟩
  · skip
    refine q_iload_n (n := 5) dX5_hasPlace_4 rfl rfl ?_
    refine q_aload_n (n := 6) dX5_hasPlace_5 rfl rfl ?_
    refine q_getI (kI := 1) (n := 9) (by decide) dX5_hasPlace_6 rfl fX5_15 hc.1 rfl rfl ?_
    refine q_icmp_ge (n := 12) (t := 16) dX5_hasPlace_9 rfl (by decide) (fun h9 => ?_) (fun h9 => ?_)
    · skip
      refine q_iconst (n := 17) dX5_hasPlace_16 rfl (k := ?_)
      refine q_iret dX5_hasPlace_17 rfl (fun _ => rfl) ?_
      first | exact ⟨q_lf1 (by omega), rfl⟩ | exact ⟨q_lf0 (by omega), rfl⟩
    · skip
      refine q_iconst (n := 13) dX5_hasPlace_12 rfl (k := ?_)
      refine q_go (t := 17) dX5_hasPlace_13 (by decide) ?_
      refine q_iret dX5_hasPlace_17 rfl (fun _ => rfl) ?_
      first | exact ⟨q_lf1 (by omega), rfl⟩ | exact ⟨q_lf0 (by omega), rfl⟩
set_option maxRecDepth 100000 in
theorem zX3_goesOut (v t : Int) (σ : q_S) (hv : 0 ≤ v ∧ v < 4) : q_Ct mX3_goesOut shX [.inr (.inr 1), .inl v, .inl t] σ (fun r σ' => r = some (.inl (if q_and (q_shr (σ 7 v) t) 1 = 1 then 1 else 0)) ∧ σ' = σ) := by
  refine q_ct 0 (by decide) rfl rfl ?_
  show q_WP mX3_goesOut shX 0 [some (.inr (.inr 1)), some (.inl v), some (.inl t)] [] σ _
  refine q_aload_n (n := 1) dX3_goesOut_0 rfl rfl ?_
  refine q_getR (n := 4) dX3_goesOut_1 rfl fX3_37 xi1 rfl ?_
  refine q_iload_n (n := 5) dX3_goesOut_4 rfl rfl ?_
  refine q_iaload (n := 6) dX3_goesOut_5 rfl xi7 ⟨by omega, by omega⟩ ?_
  refine q_iload_n (n := 7) dX3_goesOut_6 rfl rfl ?_
  refine q_ishr (n := 8) dX3_goesOut_7 rfl ?_
  refine q_iconst (n := 9) dX3_goesOut_8 rfl (k := ?_)
  refine q_iand (n := 10) dX3_goesOut_9 rfl ?_
  refine q_iconst (n := 11) dX3_goesOut_10 rfl (k := ?_)
  refine q_icmp_ne (n := 14) (t := 18) dX3_goesOut_11 rfl (by decide) (fun h11 => ?_) (fun h11 => ?_)
  · skip
    refine q_iconst (n := 19) dX3_goesOut_18 rfl (k := ?_)
    refine q_iret dX3_goesOut_19 rfl (fun _ => rfl) ?_
    first | exact ⟨q_lf1 (by first | assumption | omega | simp_all), rfl⟩ | exact ⟨q_lf0 (by first | assumption | omega | simp_all), rfl⟩
  · skip
    refine q_iconst (n := 15) dX3_goesOut_14 rfl (k := ?_)
    refine q_go (t := 19) dX3_goesOut_15 (by decide) ?_
    refine q_iret dX3_goesOut_19 rfl (fun _ => rfl) ?_
    first | exact ⟨q_lf1 (by first | assumption | omega | simp_all), rfl⟩ | exact ⟨q_lf0 (by first | assumption | omega | simp_all), rfl⟩
set_option maxRecDepth 100000 in
theorem zX3_strengthen (x : Int) (σ : q_S) : q_Ct mX3_strengthen shX [.inr (.inr 1), .inl x] σ (fun r σ' => ∃ v, r = some v ∧ ((1 ≤ x ∧ x ≤ 9) ∧ v = .inl (σ 1 0) ∧ σ' = q_up σ 1 0 x ∨ ¬ (1 ≤ x ∧ x ≤ 9) ∧ v = .inl (-1) ∧ σ' = σ)) := by
  refine q_ct 1 (by decide) rfl rfl ?_
  show q_WP mX3_strengthen shX 0 [some (.inr (.inr 1)), some (.inl x), none] [] σ _
  refine q_iload_n (n := 1) dX3_strengthen_0 rfl rfl ?_
  refine q_iconst (n := 2) dX3_strengthen_1 rfl (k := ?_)
  refine q_icmp_lt (n := 5) (t := 11) dX3_strengthen_2 rfl (by decide) (fun h2 => ?_) (fun h2 => ?_)
  · skip
    refine q_iconst (n := 12) dX3_strengthen_11 rfl (k := ?_)
    refine q_iret dX3_strengthen_12 rfl (fun _ => rfl) ?_
    first | exact ⟨_, rfl, Or.inl ⟨by omega, rfl, rfl⟩⟩ | exact ⟨_, rfl, Or.inr ⟨by omega, rfl, rfl⟩⟩
  · skip
    refine q_iload_n (n := 6) dX3_strengthen_5 rfl rfl ?_
    refine q_bipush (n := 8) dX3_strengthen_6 rfl (k := ?_)
    refine q_icmp_le (n := 11) (t := 13) dX3_strengthen_8 rfl (by decide) (fun h8 => ?_) (fun h8 => ?_)
    · skip
      refine q_aload_n (n := 14) dX3_strengthen_13 rfl rfl ?_
      refine q_getI (kI := 0) (n := 17) (by decide) dX3_strengthen_14 rfl fX3_9 xi1 rfl rfl ?_
      refine q_istore_n (n := 18) dX3_strengthen_17 rfl (by decide) (q_s1_s (q_s1_1 rfl)) ?_
      refine q_aload_n (n := 19) dX3_strengthen_18 rfl rfl ?_
      refine q_iload_n (n := 20) dX3_strengthen_19 rfl rfl ?_
      refine q_putI (kI := 0) (n := 23) dX3_strengthen_20 rfl pX3_9 xi1 rfl rfl ?_
      refine q_iload_n (n := 24) dX3_strengthen_23 rfl rfl ?_
      refine q_iret dX3_strengthen_24 rfl (fun _ => rfl) ?_
      first | exact ⟨_, rfl, Or.inl ⟨by omega, rfl, rfl⟩⟩ | exact ⟨_, rfl, Or.inr ⟨by omega, rfl, rfl⟩⟩
    · skip
      refine q_iconst (n := 12) dX3_strengthen_11 rfl (k := ?_)
      refine q_iret dX3_strengthen_12 rfl (fun _ => rfl) ?_
      first | exact ⟨_, rfl, Or.inl ⟨by omega, rfl, rfl⟩⟩ | exact ⟨_, rfl, Or.inr ⟨by omega, rfl, rfl⟩⟩
set_option maxRecDepth 100000 in
theorem zX3_removeVertex (σ : q_S) (h : 0 ≤ σ 1 2 ∧ σ 1 2 ≤ 4) : q_Ct mX3_removeVertex shX [.inr (.inr 1)] σ (fun r σ' => ∃ v, r = some v ∧ (σ 1 2 = 0 ∧ v = .inl (-5) ∧ σ' = σ ∨ σ 1 2 ≠ 0 ∧ v = .inl (σ 1 2 - 1) ∧ σ' = q_up σ 1 2 (σ 1 2 - 1))) := by
  refine q_ct 0 (by decide) rfl rfl ?_
  show q_WP mX3_removeVertex shX 0 [some (.inr (.inr 1))] [] σ _
  refine q_aload_n (n := 1) dX3_removeVertex_0 rfl rfl ?_
  refine q_getI (kI := 2) (n := 4) (by decide) dX3_removeVertex_1 rfl fX3_18 xi1 rfl rfl ?_
  refine q_if_ne (n := 7) (t := 10) dX3_removeVertex_4 rfl (by decide) (fun h4 => ?_) (fun h4 => ?_)
  · skip
    refine q_aload_n (n := 11) dX3_removeVertex_10 rfl rfl ?_
    refine q_dup (n := 12) dX3_removeVertex_11 rfl rfl ?_
    refine q_getI (kI := 2) (n := 15) (by decide) dX3_removeVertex_12 rfl fX3_18 xi1 rfl rfl ?_
    refine q_iconst (n := 16) dX3_removeVertex_15 rfl (k := ?_)
    refine q_isubS (n := 17) dX3_removeVertex_16 rfl ⟨by omega, by omega⟩ ?_
    refine q_putI (kI := 2) (n := 20) dX3_removeVertex_17 rfl pX3_18 xi1 rfl rfl ?_
    refine q_aload_n (n := 21) dX3_removeVertex_20 rfl rfl ?_
    refine q_getIE (σ 1 2 - 1) (kI := 2) (n := 24) (by decide) dX3_removeVertex_21 rfl fX3_18 xi1 rfl rfl (by simp [q_up]) ?_
    refine q_iret dX3_removeVertex_24 rfl (fun _ => rfl) ?_
    first | exact ⟨_, rfl, Or.inl ⟨by omega, rfl, rfl⟩⟩ | exact ⟨_, rfl, Or.inr ⟨by omega, rfl, rfl⟩⟩
  · skip
    refine q_bipush (n := 9) dX3_removeVertex_7 rfl (k := ?_)
    refine q_iret dX3_removeVertex_9 rfl (fun _ => rfl) ?_
    first | exact ⟨_, rfl, Or.inl ⟨by omega, rfl, rfl⟩⟩ | exact ⟨_, rfl, Or.inr ⟨by omega, rfl, rfl⟩⟩
set_option maxRecDepth 100000 in
theorem zX3_addVertex (x y a b : Int) (σ : q_S) (h : 0 ≤ σ 1 2 ∧ σ 1 2 ≤ 4) : q_Ct mX3_addVertex shX [.inr (.inr 1), .inl x, .inl y, .inl a, .inl b] σ (fun r σ' => ∃ v, r = some v ∧ (σ 1 2 = 4 ∧ v = .inl (-3) ∧ σ' = σ ∨ σ 1 2 ≠ 4 ∧ v = .inl (σ 1 2) ∧ σ' = q_up (q_up (q_up (q_up (q_up σ 4 (σ 1 2) x) 5 (σ 1 2) y) 6 (σ 1 2) a) 7 (σ 1 2) b) 1 2 (σ 1 2 + 1))) := by
  refine q_ct 0 (by decide) rfl rfl ?_
  show q_WP mX3_addVertex shX 0 [some (.inr (.inr 1)), some (.inl x), some (.inl y), some (.inl a), some (.inl b)] [] σ _
  refine q_aload_n (n := 1) dX3_addVertex_0 rfl rfl ?_
  refine q_getI (kI := 2) (n := 4) (by decide) dX3_addVertex_1 rfl fX3_18 xi1 rfl rfl ?_
  refine q_iconst (n := 5) dX3_addVertex_4 rfl (k := ?_)
  refine q_icmp_ne (n := 8) (t := 11) dX3_addVertex_5 rfl (by decide) (fun h5 => ?_) (fun h5 => ?_)
  · skip
    refine q_aload_n (n := 12) dX3_addVertex_11 rfl rfl ?_
    refine q_getR (n := 15) dX3_addVertex_12 rfl fX3_28 xi1 rfl ?_
    refine q_aload_n (n := 16) dX3_addVertex_15 rfl rfl ?_
    refine q_getI (kI := 2) (n := 19) (by decide) dX3_addVertex_16 rfl fX3_18 xi1 rfl rfl ?_
    refine q_iload_n (n := 20) dX3_addVertex_19 rfl rfl ?_
    refine q_iastore (n := 21) dX3_addVertex_20 rfl xi4 ⟨by omega, by omega⟩ ?_
    refine q_aload_n (n := 22) dX3_addVertex_21 rfl rfl ?_
    refine q_getR (n := 25) dX3_addVertex_22 rfl fX3_31 xi1 rfl ?_
    refine q_aload_n (n := 26) dX3_addVertex_25 rfl rfl ?_
    refine q_getIE (σ 1 2) (kI := 2) (n := 29) (by decide) dX3_addVertex_26 rfl fX3_18 xi1 rfl rfl (by simp [q_up]) ?_
    refine q_iload_n (n := 30) dX3_addVertex_29 rfl rfl ?_
    refine q_iastore (n := 31) dX3_addVertex_30 rfl xi5 ⟨by omega, by omega⟩ ?_
    refine q_aload_n (n := 32) dX3_addVertex_31 rfl rfl ?_
    refine q_getR (n := 35) dX3_addVertex_32 rfl fX3_34 xi1 rfl ?_
    refine q_aload_n (n := 36) dX3_addVertex_35 rfl rfl ?_
    refine q_getIE (σ 1 2) (kI := 2) (n := 39) (by decide) dX3_addVertex_36 rfl fX3_18 xi1 rfl rfl (by simp [q_up]) ?_
    refine q_iload_n (n := 40) dX3_addVertex_39 rfl rfl ?_
    refine q_iastore (n := 41) dX3_addVertex_40 rfl xi6 ⟨by omega, by omega⟩ ?_
    refine q_aload_n (n := 42) dX3_addVertex_41 rfl rfl ?_
    refine q_getR (n := 45) dX3_addVertex_42 rfl fX3_37 xi1 rfl ?_
    refine q_aload_n (n := 46) dX3_addVertex_45 rfl rfl ?_
    refine q_getIE (σ 1 2) (kI := 2) (n := 49) (by decide) dX3_addVertex_46 rfl fX3_18 xi1 rfl rfl (by simp [q_up]) ?_
    refine q_iload (n := 51) dX3_addVertex_49 rfl rfl ?_
    refine q_iastore (n := 52) dX3_addVertex_51 rfl xi7 ⟨by omega, by omega⟩ ?_
    refine q_aload_n (n := 53) dX3_addVertex_52 rfl rfl ?_
    refine q_dup (n := 54) dX3_addVertex_53 rfl rfl ?_
    refine q_getIE (σ 1 2) (kI := 2) (n := 57) (by decide) dX3_addVertex_54 rfl fX3_18 xi1 rfl rfl (by simp [q_up]) ?_
    refine q_iconst (n := 58) dX3_addVertex_57 rfl (k := ?_)
    refine q_iaddS (n := 59) dX3_addVertex_58 rfl ⟨by omega, by omega⟩ ?_
    refine q_putI (kI := 2) (n := 62) dX3_addVertex_59 rfl pX3_18 xi1 rfl rfl ?_
    refine q_aload_n (n := 63) dX3_addVertex_62 rfl rfl ?_
    refine q_getIE (σ 1 2 + 1) (kI := 2) (n := 66) (by decide) dX3_addVertex_63 rfl fX3_18 xi1 rfl rfl (by simp [q_up]) ?_
    refine q_iconst (n := 67) dX3_addVertex_66 rfl (k := ?_)
    refine q_isubS (n := 68) dX3_addVertex_67 rfl ⟨by omega, by omega⟩ ?_
    refine q_iret dX3_addVertex_68 rfl (fun _ => rfl) ?_
    first | exact ⟨_, rfl, Or.inl ⟨by omega, rfl, rfl⟩⟩ | exact ⟨_, rfl, Or.inr ⟨by omega, by congr 1; omega, rfl⟩⟩
  · skip
    refine q_bipush (n := 10) dX3_addVertex_8 rfl (k := ?_)
    refine q_iret dX3_addVertex_10 rfl (fun _ => rfl) ?_
    first | exact ⟨_, rfl, Or.inl ⟨by omega, rfl, rfl⟩⟩ | exact ⟨_, rfl, Or.inr ⟨by omega, by congr 1; omega, rfl⟩⟩
