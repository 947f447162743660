set_option maxRecDepth 100000 in
theorem zJ0_isLatin1_aae02 (sh : q_H) (σ : q_S) : q_Ct mJ0_isLatin1_aae02 sh [.inr (.inr 1001)] σ (fun r σ' => r = some (.inl (1)) ∧ σ' = σ) := by
  refine q_ct 0 (by decide) rfl rfl ?_
  show q_WP mJ0_isLatin1_aae02 sh 0 [some (.inr (.inr 1001))] [] σ _
  refine q_getCS (n := 3) dJ0_isLatin1_aae02_0 rfl rfl ?_
  refine q_if_eq (n := 6) (t := 17) dJ0_isLatin1_aae02_3 rfl (by decide) (fun h3 => ?_) (fun h3 => ?_)
  · exact absurd h3 (by decide)
  · skip
    refine q_aload_n (n := 7) dJ0_isLatin1_aae02_6 rfl rfl ?_
    refine q_getSC (n := 10) dJ0_isLatin1_aae02_7 rfl rfl ?_
    refine q_if_ne (n := 13) (t := 17) dJ0_isLatin1_aae02_10 rfl (by decide) (fun h10 => ?_) (fun h10 => ?_)
    · exact absurd h10 (by decide)
    · skip
      refine q_iconst (n := 14) dJ0_isLatin1_aae02_13 rfl (k := ?_)
      refine q_go (t := 18) dJ0_isLatin1_aae02_14 (by decide) ?_
      refine q_iret dJ0_isLatin1_aae02_18 rfl (fun _ => rfl) ?_
      exact ⟨rfl, rfl⟩
set_option maxRecDepth 100000 in
theorem zJ0_coder_7d493 (sh : q_H) (σ : q_S) : q_Ct mJ0_coder_7d493 sh [.inr (.inr 1001)] σ (fun r σ' => r = some (.inl (0)) ∧ σ' = σ) := by
  refine q_ct 0 (by decide) rfl rfl ?_
  show q_WP mJ0_coder_7d493 sh 0 [some (.inr (.inr 1001))] [] σ _
  refine q_getCS (n := 3) dJ0_coder_7d493_0 rfl rfl ?_
  refine q_if_eq (n := 6) (t := 13) dJ0_coder_7d493_3 rfl (by decide) (fun h3 => ?_) (fun h3 => ?_)
  · exact absurd h3 (by decide)
  · skip
    refine q_aload_n (n := 7) dJ0_coder_7d493_6 rfl rfl ?_
    refine q_getSC (n := 10) dJ0_coder_7d493_7 rfl rfl ?_
    refine q_go (t := 14) dJ0_coder_7d493_10 (by decide) ?_
    refine q_iret dJ0_coder_7d493_14 rfl (fun _ => rfl) ?_
    exact ⟨rfl, rfl⟩
set_option maxRecDepth 100000 in
theorem zJ0_length_8abf5 (sh : q_H) (σ : q_S) : q_Ct mJ0_length_8abf5 sh [.inr (.inr 1001)] σ (fun r σ' => r = some (.inl (12)) ∧ σ' = σ) := by
  refine q_ct 0 (by decide) rfl rfl ?_
  show q_WP mJ0_length_8abf5 sh 0 [some (.inr (.inr 1001))] [] σ _
  refine q_aload_n (n := 1) dJ0_length_8abf5_0 rfl rfl ?_
  refine q_getSV (n := 4) dJ0_length_8abf5_1 rfl rfl ?_
  refine q_lenS (n := 5) dJ0_length_8abf5_4 rfl ?_
  refine q_aload_n (n := 6) dJ0_length_8abf5_5 rfl rfl ?_
  refine q_t0 (n := 9) dJ0_length_8abf5_6 rfl (zJ0_coder_7d493 _ _) vJ0_coder_7d493 rfl lJ0_335 rfl rfl ?_
  refine q_ishr (n := 10) dJ0_length_8abf5_9 rfl ?_
  refine q_topI 12 (shr0 (by constructor <;> decide)) ?_
  refine q_iret dJ0_length_8abf5_10 rfl (fun _ => rfl) ?_
  exact ⟨rfl, rfl⟩
set_option maxRecDepth 100000 in
theorem zJ1_canEncode_9a6ad (sh : q_H) (x : Int) (σ : q_S) : q_Ct mJ1_canEncode_9a6ad sh [.inl x] σ (fun r σ' => r = some (.inl (if 0 ≤ x ∧ x ≤ 255 then 1 else 0)) ∧ σ' = σ) := by
  refine q_ct 0 (by decide) rfl rfl ?_
  show q_WP mJ1_canEncode_9a6ad sh 0 [some (.inl x)] [] σ _
  refine q_iload_n (n := 1) dJ1_canEncode_9a6ad_0 rfl rfl ?_
  refine q_if_lt (n := 4) (t := 15) dJ1_canEncode_9a6ad_1 rfl (by decide) (fun h1 => ?_) (fun h1 => ?_)
  · skip
    refine q_iconst (n := 16) dJ1_canEncode_9a6ad_15 rfl (k := ?_)
    refine q_iret dJ1_canEncode_9a6ad_16 rfl (fun _ => rfl) ?_
    first | exact ⟨q_lf1 (by omega), rfl⟩ | exact ⟨q_lf0 (by omega), rfl⟩
  · skip
    refine q_iload_n (n := 5) dJ1_canEncode_9a6ad_4 rfl rfl ?_
    refine q_sipush (n := 8) dJ1_canEncode_9a6ad_5 rfl (k := ?_)
    refine q_icmp_gt (n := 11) (t := 15) dJ1_canEncode_9a6ad_8 rfl (by decide) (fun h8 => ?_) (fun h8 => ?_)
    · skip
      refine q_iconst (n := 16) dJ1_canEncode_9a6ad_15 rfl (k := ?_)
      refine q_iret dJ1_canEncode_9a6ad_16 rfl (fun _ => rfl) ?_
      first | exact ⟨q_lf1 (by omega), rfl⟩ | exact ⟨q_lf0 (by omega), rfl⟩
    · skip
      refine q_iconst (n := 12) dJ1_canEncode_9a6ad_11 rfl (k := ?_)
      refine q_go (t := 16) dJ1_canEncode_9a6ad_12 (by decide) ?_
      refine q_iret dJ1_canEncode_9a6ad_16 rfl (fun _ => rfl) ?_
      first | exact ⟨q_lf1 (by omega), rfl⟩ | exact ⟨q_lf0 (by omega), rfl⟩
set_option maxRecDepth 100000 in
theorem lpJ1_ix (sh : q_H) (σ : q_S) (c : Int) : ∀ (n : Nat) (i : Int), (n : Int) + i = 12 → 0 ≤ i → q_WP mJ1_indexOfChar_4cfef sh 7 [some (.inr (.inr 1002)), some (.inl c), some (.inl 0), some (.inl 12), some (.inl c), some (.inl i)] [] σ (fun r σ' => r = some (.inl (ixL c n i)) ∧ σ' = σ) := by
  intro n
  induction n with
  | zero =>
    intro i hi h0
    refine q_iload (n := 9) dJ1_indexOfChar_4cfef_7 rfl rfl ?_
    refine q_iload_n (n := 10) dJ1_indexOfChar_4cfef_9 rfl rfl ?_
    refine q_icmp_ge (n := 13) (t := 31) dJ1_indexOfChar_4cfef_10 rfl (by decide) (fun h10 => ?_) (fun h10 => ?_)
    · skip
      refine q_iconst (n := 32) dJ1_indexOfChar_4cfef_31 rfl (k := ?_)
      refine q_iret dJ1_indexOfChar_4cfef_32 rfl (fun _ => rfl) ?_
      exact ⟨rfl, rfl⟩
    · exact absurd h10 (by omega)
  | succ n ih =>
    intro i hi h0
    refine q_iload (n := 9) dJ1_indexOfChar_4cfef_7 rfl rfl ?_
    refine q_iload_n (n := 10) dJ1_indexOfChar_4cfef_9 rfl rfl ?_
    refine q_icmp_ge (n := 13) (t := 31) dJ1_indexOfChar_4cfef_10 rfl (by decide) (fun h10 => ?_) (fun h10 => ?_)
    · exact absurd h10 (by omega)
    · skip
      refine q_aload_n (n := 14) dJ1_indexOfChar_4cfef_13 rfl rfl ?_
      refine q_iload (n := 16) dJ1_indexOfChar_4cfef_14 rfl rfl ?_
      refine q_balS (n := 17) dJ1_indexOfChar_4cfef_16 rfl ⟨by omega, by omega⟩ ?_
      refine q_iload (n := 19) dJ1_indexOfChar_4cfef_17 rfl rfl ?_
      refine q_icmp_ne (n := 22) (t := 25) dJ1_indexOfChar_4cfef_19 rfl (by decide) (fun h19 => ?_) (fun h19 => ?_)
      · skip
        refine q_iinc (n := 28) dJ1_indexOfChar_4cfef_25 rfl (Nat.le_of_ble_eq_true rfl) rfl (q_nwid ⟨by omega, by omega⟩) (q_s1_s (q_s1_s (q_s1_s (q_s1_s (q_s1_1 rfl))))) ?_
        refine q_go (t := 7) dJ1_indexOfChar_4cfef_28 (by decide) ?_
        rw [ixL, if_neg h19]
        exact ih _ (by omega) (by omega)
      · skip
        refine q_iload (n := 24) dJ1_indexOfChar_4cfef_22 rfl rfl ?_
        refine q_iret dJ1_indexOfChar_4cfef_24 rfl (fun _ => rfl) ?_
        exact ⟨by rw [ixL, if_pos h19], rfl⟩
set_option maxRecDepth 100000 in
theorem zJ1_indexOfChar_4cfef (sh : q_H) (c : Int) (σ : q_S) (hc : 0 ≤ c ∧ c ≤ 127) : q_Ct mJ1_indexOfChar_4cfef sh [.inr (.inr 1002), .inl c, .inl 0, .inl 12] σ (fun r σ' => r = some (.inl (ixL c 12 0)) ∧ σ' = σ) := by
  refine q_ct 2 (by decide) rfl rfl ?_
  show q_WP mJ1_indexOfChar_4cfef sh 0 [some (.inr (.inr 1002)), some (.inl c), some (.inl 0), some (.inl 12), none, none] [] σ _
  refine q_iload_n (n := 1) dJ1_indexOfChar_4cfef_0 rfl rfl ?_
  refine q_i2b_ (n := 2) dJ1_indexOfChar_4cfef_1 rfl ?_
  refine q_topI c (i2b_id (by omega)) ?_
  refine q_istore (n := 4) dJ1_indexOfChar_4cfef_2 rfl (Nat.le_of_ble_eq_true rfl) (q_s1_s (q_s1_s (q_s1_s (q_s1_1 rfl)))) ?_
  refine q_iload_n (n := 5) dJ1_indexOfChar_4cfef_4 rfl rfl ?_
  refine q_istore (n := 7) dJ1_indexOfChar_4cfef_5 rfl (Nat.le_of_ble_eq_true rfl) (q_s1_s (q_s1_s (q_s1_s (q_s1_s (q_s1_1 rfl))))) ?_
  exact lpJ1_ix sh σ c 12 0 (by decide) (by decide)
set_option maxRecDepth 100000 in
theorem zJ1_indexOf_4cfef (sh : q_H) (c : Int) (σ : q_S) (hc : 0 ≤ c ∧ c ≤ 127) : q_Ct mJ1_indexOf_4cfef sh [.inr (.inr 1002), .inl c, .inl 0, .inl 12] σ (fun r σ' => r = some (.inl (ixL c 12 0)) ∧ σ' = σ) := by
  refine q_ct 0 (by decide) rfl rfl ?_
  show q_WP mJ1_indexOf_4cfef sh 0 [some (.inr (.inr 1002)), some (.inl c), some (.inl 0), some (.inl 12)] [] σ _
  refine q_iload_n (n := 1) dJ1_indexOf_4cfef_0 rfl rfl ?_
  refine q_c1D (n := 4) dJ1_indexOf_4cfef_1 rfl (zJ1_canEncode_9a6ad _ _ _) vJ1_canEncode_9a6ad lJ1_88 rfl rfl ?_
  refine q_if_ne (n := 7) (t := 9) dJ1_indexOf_4cfef_4 rfl (by decide) (fun h4 => ?_) (fun h4 => ?_)
  · have h4 := q_b1.mp h4
    refine q_iload_n (n := 10) dJ1_indexOf_4cfef_9 rfl rfl ?_
    refine q_iconst (n := 11) dJ1_indexOf_4cfef_10 rfl (k := ?_)
    refine q_mmaxI (n := 14) dJ1_indexOf_4cfef_11 rfl lmJ1_92 rfl rfl ?_
    refine q_topI 0 (by decide) ?_
    refine q_istore_n (n := 15) dJ1_indexOf_4cfef_14 rfl (Nat.le_of_ble_eq_true rfl) (q_s1_s (q_s1_1 rfl)) ?_
    refine q_iload_n (n := 16) dJ1_indexOf_4cfef_15 rfl rfl ?_
    refine q_aload_n (n := 17) dJ1_indexOf_4cfef_16 rfl rfl ?_
    refine q_lenS (n := 18) dJ1_indexOf_4cfef_17 rfl ?_
    refine q_mminI (n := 21) dJ1_indexOf_4cfef_18 rfl lmJ1_38 rfl rfl ?_
    refine q_topI 12 (by decide) ?_
    refine q_istore_n (n := 22) dJ1_indexOf_4cfef_21 rfl (Nat.le_of_ble_eq_true rfl) (q_s1_s (q_s1_s (q_s1_1 rfl))) ?_
    refine q_iload_n (n := 23) dJ1_indexOf_4cfef_22 rfl rfl ?_
    refine q_iload_n (n := 24) dJ1_indexOf_4cfef_23 rfl rfl ?_
    refine q_icmp_lt (n := 27) (t := 29) dJ1_indexOf_4cfef_24 rfl (by decide) (fun h24 => ?_) (fun h24 => ?_)
    · skip
      refine q_aload_n (n := 30) dJ1_indexOf_4cfef_29 rfl rfl ?_
      refine q_iload_n (n := 31) dJ1_indexOf_4cfef_30 rfl rfl ?_
      refine q_iload_n (n := 32) dJ1_indexOf_4cfef_31 rfl rfl ?_
      refine q_iload_n (n := 33) dJ1_indexOf_4cfef_32 rfl rfl ?_
      refine q_c4D (n := 36) dJ1_indexOf_4cfef_33 rfl (zJ1_indexOfChar_4cfef _ _ _ hc) vJ1_indexOfChar_4cfef lJ1_95 rfl rfl ?_
      refine q_iret dJ1_indexOf_4cfef_36 rfl (fun _ => rfl) ?_
      exact ⟨rfl, rfl⟩
    · exact absurd (by decide) h24
  · exact absurd (show 0 ≤ c ∧ c ≤ 255 from ⟨by omega, by omega⟩) (q_b0.mp h4)
set_option maxRecDepth 100000 in
theorem zJ0_indexOf_7cf53 (sh : q_H) (c : Int) (σ : q_S) (hc : 0 ≤ c ∧ c ≤ 127) : q_Ct mJ0_indexOf_7cf53 sh [.inr (.inr 1001), .inl c, .inl 0] σ (fun r σ' => r = some (.inl (ixL c 12 0)) ∧ σ' = σ) := by
  refine q_ct 0 (by decide) rfl rfl ?_
  show q_WP mJ0_indexOf_7cf53 sh 0 [some (.inr (.inr 1001)), some (.inl c), some (.inl 0)] [] σ _
  refine q_aload_n (n := 1) dJ0_indexOf_7cf53_0 rfl rfl ?_
  refine q_t0 (n := 4) dJ0_indexOf_7cf53_1 rfl (zJ0_isLatin1_aae02 _ _) vJ0_isLatin1_aae02 rfl lJ0_492 rfl rfl ?_
  refine q_if_eq (n := 7) (t := 23) dJ0_indexOf_7cf53_4 rfl (by decide) (fun h4 => ?_) (fun h4 => ?_)
  · exact absurd h4 (by decide)
  · skip
    refine q_aload_n (n := 8) dJ0_indexOf_7cf53_7 rfl rfl ?_
    refine q_getSV (n := 11) dJ0_indexOf_7cf53_8 rfl rfl ?_
    refine q_iload_n (n := 12) dJ0_indexOf_7cf53_11 rfl rfl ?_
    refine q_iload_n (n := 13) dJ0_indexOf_7cf53_12 rfl rfl ?_
    refine q_aload_n (n := 14) dJ0_indexOf_7cf53_13 rfl rfl ?_
    refine q_t0 (n := 17) dJ0_indexOf_7cf53_14 rfl (zJ0_length_8abf5 _ _) vJ0_length_8abf5 rfl lJ0_505 rfl rfl ?_
    refine q_c4D (n := 20) dJ0_indexOf_7cf53_17 rfl (zJ1_indexOf_4cfef _ _ _ hc) vJ1_indexOf_4cfef lJ0_637 rfl rfl ?_
    refine q_go (t := 36) dJ0_indexOf_7cf53_20 (by decide) ?_
    refine q_iret dJ0_indexOf_7cf53_36 rfl (fun _ => rfl) ?_
    exact ⟨rfl, rfl⟩
set_option maxRecDepth 100000 in
theorem zJ0_indexOf_0f7a4 (sh : q_H) (c : Int) (σ : q_S) (hc : 0 ≤ c ∧ c ≤ 127) : q_Ct mJ0_indexOf_0f7a4 sh [.inr (.inr 1001), .inl c] σ (fun r σ' => r = some (.inl (ixL c 12 0)) ∧ σ' = σ) := by
  refine q_ct 0 (by decide) rfl rfl ?_
  show q_WP mJ0_indexOf_0f7a4 sh 0 [some (.inr (.inr 1001)), some (.inl c)] [] σ _
  refine q_aload_n (n := 1) dJ0_indexOf_0f7a4_0 rfl rfl ?_
  refine q_iload_n (n := 2) dJ0_indexOf_0f7a4_1 rfl rfl ?_
  refine q_iconst (n := 3) dJ0_indexOf_0f7a4_2 rfl (k := ?_)
  refine q_t2 (n := 6) dJ0_indexOf_0f7a4_3 rfl (zJ0_indexOf_7cf53 _ _ _ hc) vJ0_indexOf_7cf53 rfl lJ0_633 rfl rfl ?_
  refine q_iret dJ0_indexOf_0f7a4_6 rfl (fun _ => rfl) ?_
  exact ⟨rfl, rfl⟩
set_option maxRecDepth 100000 in
theorem zJ0_checkIndex_df160 (sh : q_H) (i k : Int) (σ : q_S) (h : 0 ≤ i ∧ i < k) : q_Ct mJ0_checkIndex_df160 sh [.inl i, .inl k] σ (fun r σ' => r = none ∧ σ' = σ) := by
  refine q_ct 0 (by decide) rfl rfl ?_
  show q_WP mJ0_checkIndex_df160 sh 0 [some (.inl i), some (.inl k)] [] σ _
  refine q_iload_n (n := 1) dJ0_checkIndex_df160_0 rfl rfl ?_
  refine q_iload_n (n := 2) dJ0_checkIndex_df160_1 rfl rfl ?_
  refine q_chk (n := 8) dJ0_checkIndex_df160_2 dJ0_checkIndex_df160_5 rfl rfl (by decide) rfl h ?_
  refine q_pop (n := 9) dJ0_checkIndex_df160_8 rfl rfl ?_
  refine q_vret dJ0_checkIndex_df160_9 rfl ?_
  exact ⟨rfl, rfl⟩
set_option maxRecDepth 100000 in
theorem zJ1_charAt_3b067 (sh : q_H) (i : Int) (σ : q_S) (h : 0 ≤ i ∧ i < 12) : q_Ct mJ1_charAt_3b067 sh [.inr (.inr 1002), .inl i] σ (fun r σ' => r = some (.inl (q_let.getD i.toNat 0)) ∧ σ' = σ) := by
  refine q_ct 0 (by decide) rfl rfl ?_
  show q_WP mJ1_charAt_3b067 sh 0 [some (.inr (.inr 1002)), some (.inl i)] [] σ _
  refine q_iload_n (n := 1) dJ1_charAt_3b067_0 rfl rfl ?_
  refine q_aload_n (n := 2) dJ1_charAt_3b067_1 rfl rfl ?_
  refine q_lenS (n := 3) dJ1_charAt_3b067_2 rfl ?_
  refine q_c2U (n := 6) dJ1_charAt_3b067_3 rfl (zJ0_checkIndex_df160 _ _ _ _ h) vJ0_checkIndex_df160 lJ1_9 rfl rfl ?_
  refine q_aload_n (n := 7) dJ1_charAt_3b067_6 rfl rfl ?_
  refine q_iload_n (n := 8) dJ1_charAt_3b067_7 rfl rfl ?_
  refine q_balS (n := 9) dJ1_charAt_3b067_8 rfl ⟨by omega, by omega⟩ ?_
  refine q_sipush (n := 12) dJ1_charAt_3b067_9 rfl (k := ?_)
  refine q_iand (n := 13) dJ1_charAt_3b067_12 rfl ?_
  refine q_topI (q_let.getD i.toNat 0) (let_rng h).2 ?_
  refine q_i2c_ (n := 14) dJ1_charAt_3b067_13 rfl ?_
  refine q_topI (q_let.getD i.toNat 0) (i2c_id ⟨(let_rng h).1.1, by have := (let_rng h).1.2; omega⟩) ?_
  refine q_iret dJ1_charAt_3b067_14 rfl (fun _ => nar_char ⟨(let_rng h).1.1, by have := (let_rng h).1.2; omega⟩) ?_
  exact ⟨rfl, rfl⟩
set_option maxRecDepth 100000 in
theorem zJ0_charAt_5068e (sh : q_H) (i : Int) (σ : q_S) (h : 0 ≤ i ∧ i < 12) : q_Ct mJ0_charAt_5068e sh [.inr (.inr 1001), .inl i] σ (fun r σ' => r = some (.inl (q_let.getD i.toNat 0)) ∧ σ' = σ) := by
  refine q_ct 0 (by decide) rfl rfl ?_
  show q_WP mJ0_charAt_5068e sh 0 [some (.inr (.inr 1001)), some (.inl i)] [] σ _
  refine q_aload_n (n := 1) dJ0_charAt_5068e_0 rfl rfl ?_
  refine q_t0 (n := 4) dJ0_charAt_5068e_1 rfl (zJ0_isLatin1_aae02 _ _) vJ0_isLatin1_aae02 rfl lJ0_492 rfl rfl ?_
  refine q_if_eq (n := 7) (t := 16) dJ0_charAt_5068e_4 rfl (by decide) (fun h4 => ?_) (fun h4 => ?_)
  · exact absurd h4 (by decide)
  · skip
    refine q_aload_n (n := 8) dJ0_charAt_5068e_7 rfl rfl ?_
    refine q_getSV (n := 11) dJ0_charAt_5068e_8 rfl rfl ?_
    refine q_iload_n (n := 12) dJ0_charAt_5068e_11 rfl rfl ?_
    refine q_c2D (n := 15) dJ0_charAt_5068e_12 rfl (zJ1_charAt_3b067 _ _ _ h) vJ1_charAt_3b067 lJ0_495 rfl rfl ?_
    refine q_iret dJ0_charAt_5068e_15 rfl (fun _ => nar_char ⟨(let_rng h).1.1, by have := (let_rng h).1.2; omega⟩) ?_
    exact ⟨rfl, rfl⟩
