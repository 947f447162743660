set_option maxRecDepth 100000 in
theorem zX2_countWay (σ0 : q_S) (s : ((Int → Int) × (Int → Int) × Int)) (E : Int → Int) (hE : ∀ j : Int, 0 ≤ j → j < 4 → q_bd (E j) 1000) (hw : 0 ≤ s.2.2 ∧ s.2.2 < 2000000) : q_Ct mX2_countWay shX [.inr (.inr 84)] (nmW σ0 s E) (fun r σ' => r = none ∧ σ' = nmW σ0 (leafW (σ0 84 6) E s) E) := by
  refine q_ct 0 (by decide) rfl rfl ?_
  show q_WP mX2_countWay shX 0 [some (.inr (.inr 84))] [] (nmW σ0 s E) _
  refine q_aload_n (n := 1) dX2_countWay_0 rfl rfl ?_
  refine q_v0 (n := 4) dX2_countWay_1 rfl (zX2_isLawful _ (by intro j h1 h2; rw [nmW_E]; exact hE j h1 h2)) vX2_isLawful lX2_61 rfl rfl xi84 rfl (fun v1 σ1 h1 => ?_)
  rw [nmW_E, nmW_o (by decide)] at h1
  rcases h1 with ⟨hl, rfl, rfl⟩ | ⟨hl, rfl, rfl⟩
  · skip
    refine q_if_ne (n := 7) (t := 8) dX2_countWay_4 rfl (by decide) (fun h4 => ?_) (fun h4 => ?_)
    · skip
      refine q_aload_n (n := 9) dX2_countWay_8 rfl rfl ?_
      refine q_getIE (s.2.2) (kI := 8) (n := 12) (by decide) dX2_countWay_9 rfl fX2_37 xi84 rfl rfl nmW_W ?_
      refine q_if_ne (n := 15) (t := 29) dX2_countWay_12 rfl (by decide) (fun h12 => ?_) (fun h12 => ?_)
      · skip
        refine q_aload_n (n := 30) dX2_countWay_29 rfl rfl ?_
        refine q_dup (n := 31) dX2_countWay_30 rfl rfl ?_
        refine q_getIE (s.2.2) (kI := 8) (n := 34) (by decide) dX2_countWay_31 rfl fX2_37 xi84 rfl rfl (by first | exact nmW_W | (rw [nmW_copy]; exact nmW_W)) ?_
        refine q_iconst (n := 35) dX2_countWay_34 rfl (k := ?_)
        refine q_iaddS (n := 36) dX2_countWay_35 rfl ⟨by omega, by omega⟩ ?_
        refine q_putI (kI := 8) (n := 39) dX2_countWay_36 rfl pX2_37 xi84 rfl rfl ?_
        refine q_vret dX2_countWay_39 rfl ?_
        first
          | (rw [leafW_f hl]; exact ⟨rfl, rfl⟩)
          | (rw [leafW_t hl, if_pos (by assumption), nmW_copy, nmW_setW]; exact ⟨rfl, rfl⟩)
          | (rw [leafW_t hl, if_neg (by assumption), nmW_setW]; exact ⟨rfl, rfl⟩)
      · skip
        refine q_aload_n (n := 16) dX2_countWay_15 rfl rfl ?_
        refine q_getR (n := 19) dX2_countWay_16 rfl fX2_21 xi84 rfl ?_
        refine q_iconst (n := 20) dX2_countWay_19 rfl (k := ?_)
        refine q_aload_n (n := 21) dX2_countWay_20 rfl rfl ?_
        refine q_getR (n := 24) dX2_countWay_21 rfl fX2_24 xi84 rfl ?_
        refine q_iconst (n := 25) dX2_countWay_24 rfl (k := ?_)
        refine q_iconst (n := 26) dX2_countWay_25 rfl (k := ?_)
        refine q_copyi (n := 29) dX2_countWay_26 rfl lX2_65 ac_n ac_s ac_i xi88 xi89 (by decide) (by decide) (by decide) (by decide) (by decide) (by decide) (fun _ => Nat.le_of_ble_eq_true rfl) ?_
        refine q_aload_n (n := 30) dX2_countWay_29 rfl rfl ?_
        refine q_dup (n := 31) dX2_countWay_30 rfl rfl ?_
        refine q_getIE (s.2.2) (kI := 8) (n := 34) (by decide) dX2_countWay_31 rfl fX2_37 xi84 rfl rfl (by first | exact nmW_W | (rw [nmW_copy]; exact nmW_W)) ?_
        refine q_iconst (n := 35) dX2_countWay_34 rfl (k := ?_)
        refine q_iaddS (n := 36) dX2_countWay_35 rfl ⟨by omega, by omega⟩ ?_
        refine q_putI (kI := 8) (n := 39) dX2_countWay_36 rfl pX2_37 xi84 rfl rfl ?_
        refine q_vret dX2_countWay_39 rfl ?_
        first
          | (rw [leafW_f hl]; exact ⟨rfl, rfl⟩)
          | (rw [leafW_t hl, if_pos (by assumption), nmW_copy, nmW_setW]; exact ⟨rfl, rfl⟩)
          | (rw [leafW_t hl, if_neg (by assumption), nmW_setW]; exact ⟨rfl, rfl⟩)
    · exact absurd h4 (by decide)
  · skip
    refine q_if_ne (n := 7) (t := 8) dX2_countWay_4 rfl (by decide) (fun h4 => ?_) (fun h4 => ?_)
    · exact absurd h4 (by decide)
    · skip
      refine q_vret dX2_countWay_7 rfl ?_
      first
        | (rw [leafW_f hl]; exact ⟨rfl, rfl⟩)
        | (rw [leafW_t hl, if_pos (by assumption), nmW_copy, nmW_setW]; exact ⟨rfl, rfl⟩)
        | (rw [leafW_t hl, if_neg (by assumption), nmW_setW]; exact ⟨rfl, rfl⟩)
theorem num0 {i : Int} : q_num.getD (5 * i + 0).toNat 0 = num i 0 := rfl
theorem kf_le {g : Int → (Int → Int) × (Int → Int) × Int → (Int → Int) × (Int → Int) × Int} {B : Int} (hg : ∀ i s, s.2.2 ≤ (g i s).2.2 ∧ (g i s).2.2 ≤ s.2.2 + B) : ∀ (m : Nat) (i : Int) (s : (Int → Int) × (Int → Int) × Int), s.2.2 ≤ (kfold g m i s).2.2 ∧ (kfold g m i s).2.2 ≤ s.2.2 + m * B := by
  intro m
  induction m with
  | zero => intro i s; simp [kfold]
  | succ m ih =>
    intro i s
    have h1 := hg i s
    have h2 := ih (i + 1) (g i s)
    have h3 : ((m + 1 : Nat) : Int) * B = m * B + B := by rw [Int.natCast_succ, Int.add_mul, Int.one_mul]
    rw [kfold, h3]
    omega
theorem srch_le {ch sd : Int → Int} {L : Int} : ∀ (n : Nat) (k : Int) (E : Int → Int) (s : (Int → Int) × (Int → Int) × Int), s.2.2 ≤ (srch ch sd L n k E s).2.2 ∧ (srch ch sd L n k E s).2.2 ≤ s.2.2 + 12 ^ n := by
  intro n
  induction n with
  | zero =>
    intro k E s
    rw [srch]
    by_cases h : lawful L E
    · rw [leafW_t h]
      dsimp only
      have : (12 : Int) ^ 0 = 1 := rfl
      omega
    · rw [leafW_f h]
      have : (12 : Int) ^ 0 = 1 := rfl
      omega
  | succ n ih =>
    intro k E s
    rw [srch]
    have := kf_le (B := 12 ^ n) (g := fun kd s => if num kd 0 = ch k then srch ch sd L n (k + 1) (addE E (sd k) kd) (fun j => if j = k then kd else s.1 j, s.2) else s) (fun i s => by
      have hp : (0 : Int) < 12 ^ n := Int.pow_pos (by decide)
      split
      · exact ih (k + 1) _ (fun j => if j = k then i else s.1 j, s.2)
      · omega) 12 0 s
    have e : (12 : Int) ^ (n + 1) = 12 * 12 ^ n := by rw [Int.pow_succ]; omega
    omega
set_option maxHeartbeats 1000000 in
set_option maxRecDepth 100000 in
theorem lpX2_se (σ : q_S) (n : Nat) (hm5 : σ 84 7 ≤ 5) (hsd : ∀ j : Int, 0 ≤ j → j < σ 84 7 → q_bd (σ 87 j) 1) (ih : ∀ (k : Int) (E : Int → Int) (s : ((Int → Int) × (Int → Int) × Int)), (n : Int) + k = σ 84 7 → 0 ≤ k → (∀ j : Int, 0 ≤ j → j < 4 → q_bd (E j) (100 + k)) → 0 ≤ s.2.2 → s.2.2 + 12 ^ n ≤ 1000000 → q_Ct (mX2_search n) shX [.inr (.inr 84), .inl k] (nmW σ s E) (fun r σ' => r = none ∧ σ' = nmW σ (srch (σ 86) (σ 87) (σ 84 6) n k E s) E)) (k : Int) (E : Int → Int) (hk : (n : Int) + 1 + k = σ 84 7) (hk0 : 0 ≤ k) (hE : ∀ j : Int, 0 ≤ j → j < 4 → q_bd (E j) (100 + k)) : ∀ (m : Nat) (i : Int) (s : ((Int → Int) × (Int → Int) × Int)), (m : Int) + i = 12 → 0 ≤ i → 0 ≤ s.2.2 → s.2.2 + m * 12 ^ n ≤ 1000000 → q_WP (mX2_search (n + 1)) shX 20 [some (.inr (.inr 84)), some (.inl k), some (.inl i)] [] (nmW σ s E) (fun r σ' => r = none ∧ σ' = nmW σ (kfold (fun kd s => if num kd 0 = σ 86 k then srch (σ 86) (σ 87) (σ 84 6) n (k + 1) (addE E (σ 87 k) kd) (fun j => if j = k then kd else s.1 j, s.2) else s) m i s) E) := by
  have hs1 := hsd k hk0 (by omega)
  have hE1 : ∀ j : Int, 0 ≤ j → j < 4 → q_bd (E j) 1000 := fun j h1 h2 => bd_le (hE j h1 h2) (by omega)
  intro m
  induction m with
  | zero =>
    intro i s hi h0 hw2 hw3
    refine q_iload_n (n := 21) dX2_search_20 rfl rfl ?_
    refine q_bipush (n := 23) dX2_search_21 rfl (k := ?_)
    refine q_icmp_ge (n := 26) (t := 83) dX2_search_23 rfl (by decide) (fun h23 => ?_) (fun h23 => ?_)
    · skip
      refine q_vret dX2_search_83 rfl ?_
      exact ⟨rfl, rfl⟩
    · exact absurd h23 (by omega)
  | succ m ihm =>
    intro i s hi h0 hw2 hw3
    have hA : ∀ j : Int, 0 ≤ j → j < 4 → q_bd (addE E (σ 87 k) i j) (100 + (k + 1)) := fun j h1 h2 => by
      have a1 := hE j h1 h2
      have a2 := bd_mul hs1 (num_bd (k := i) (j := j) ⟨by omega, by omega⟩ ⟨h1, h2⟩) (C := 1) (by decide)
      unfold addE
      rw [if_pos ⟨h1, h2⟩]
      exact bd_add a1 a2 (by omega)
    have hw0 : 0 ≤ ((fun j => if j = k then i else s.1 j, s.2) : (Int → Int) × (Int → Int) × Int).2.2 := hw2
    have hw1 : ((fun j => if j = k then i else s.1 j, s.2) : (Int → Int) × (Int → Int) × Int).2.2 + 12 ^ n ≤ 1000000 := by
      have e12 : ((m + 1 : Nat) : Int) * 12 ^ n = m * 12 ^ n + 12 ^ n := by rw [Int.natCast_succ, Int.add_mul, Int.one_mul]
      have hp : (0 : Int) ≤ m * 12 ^ n := Int.mul_nonneg (by omega) (Int.le_of_lt (Int.pow_pos (by decide)))
      rw [e12] at hw3
      show s.2.2 + 12 ^ n ≤ 1000000
      omega
    refine q_iload_n (n := 21) dX2_search_20 rfl rfl ?_
    refine q_bipush (n := 23) dX2_search_21 rfl (k := ?_)
    refine q_icmp_ge (n := 26) (t := 83) dX2_search_23 rfl (by decide) (fun h23 => ?_) (fun h23 => ?_)
    · exact absurd h23 (by omega)
    · skip
      refine q_iload_n (n := 27) dX2_search_26 rfl rfl ?_
      refine q_iconst (n := 28) dX2_search_27 rfl (k := ?_)
      refine q_c2D (n := 31) dX2_search_28 rfl (zX7_numberOf _ _ _ (by omega)) vX7_numberOf lX2_40 rfl rfl ?_
      refine q_aload_n (n := 32) dX2_search_31 rfl rfl ?_
      refine q_getR (n := 35) dX2_search_32 rfl fX2_15 xi84 rfl ?_
      refine q_iload_n (n := 36) dX2_search_35 rfl rfl ?_
      refine q_ialoadE (σ 86 k) (n := 37) dX2_search_36 rfl xi86 ⟨by omega, by omega⟩ (nmW_o (by omega)) ?_
      refine q_icmp_ne (n := 40) (t := 77) dX2_search_37 rfl (by decide) (fun h37 => ?_) (fun h37 => ?_)
      · have h37 : ¬ num i 0 = σ 86 k := h37
        skip
        refine q_iinc (n := 80) dX2_search_77 rfl (Nat.le_of_ble_eq_true rfl) rfl (q_nwid ⟨by omega, by omega⟩) (q_s1_s (q_s1_1 rfl)) ?_
        refine q_go (t := 20) dX2_search_80 (by decide) ?_
        first
          | (rw [nmW_E, addE_back, nmW_setE, kfold, if_pos h37]
             have hb := srch_le (ch := σ 86) (sd := σ 87) (L := σ 84 6) n (k + 1) (addE E (σ 87 k) i) (fun j => if j = k then i else s.1 j, s.2)
             have e12 : ((m + 1 : Nat) : Int) * 12 ^ n = m * 12 ^ n + 12 ^ n := by rw [Int.natCast_succ, Int.add_mul, Int.one_mul]
             rw [e12] at hw3
             dsimp only at hb
             exact ihm _ _ (by omega) (by omega) (by omega) (by omega))
          | (rw [kfold, if_neg h37]
             have e12 : ((m + 1 : Nat) : Int) * 12 ^ n = m * 12 ^ n + 12 ^ n := by rw [Int.natCast_succ, Int.add_mul, Int.one_mul]
             rw [e12] at hw3
             have hp : (0 : Int) < 12 ^ n := Int.pow_pos (by decide)
             exact ihm _ _ (by omega) (by omega) (by omega) (by omega))
      · have h37 : num i 0 = σ 86 k := h37
        refine q_aload_n (n := 41) dX2_search_40 rfl rfl ?_
        refine q_getR (n := 44) dX2_search_41 rfl fX2_21 xi84 rfl ?_
        refine q_iload_n (n := 45) dX2_search_44 rfl rfl ?_
        refine q_iload_n (n := 46) dX2_search_45 rfl rfl ?_
        refine q_iastore (n := 47) dX2_search_46 rfl xi88 ⟨by omega, by omega⟩ ?_
        rw [nmW_setC]
        refine q_aload_n (n := 48) dX2_search_47 rfl rfl ?_
        refine q_iload_n (n := 49) dX2_search_48 rfl rfl ?_
        refine q_aload_n (n := 50) dX2_search_49 rfl rfl ?_
        refine q_getR (n := 53) dX2_search_50 rfl fX2_18 xi84 rfl ?_
        refine q_iload_n (n := 54) dX2_search_53 rfl rfl ?_
        refine q_ialoadE (σ 87 k) (n := 55) dX2_search_54 rfl xi87 ⟨by omega, by omega⟩ (nmW_o (by omega)) ?_
        refine q_v2U (n := 58) dX2_search_55 rfl (zX2_weigh _ _ _ (by omega) hs1 (by intro j h1 h2; rw [nmW_E]; exact hE1 j h1 h2)) vX2_weigh lX2_53 rfl rfl xi84 rfl ?_
        rw [nmW_E, nmW_setE]
        refine q_aload_n (n := 59) dX2_search_58 rfl rfl ?_
        refine q_iload_n (n := 60) dX2_search_59 rfl rfl ?_
        refine q_iconst (n := 61) dX2_search_60 rfl (k := ?_)
        refine q_iaddS (n := 62) dX2_search_61 rfl ⟨by omega, by omega⟩ ?_
        refine q_v1U (n := 65) dX2_search_62 rfl (ih (k + 1) (addE E (σ 87 k) i) (fun j => if j = k then i else s.1 j, s.2) (by omega) (by omega) hA hw0 hw1) (vX2_search _) lX2_57 (Nat.ble_eq_true_of_le (by show n + 3 + 1 ≤ n + 1 + 3; omega)) rfl xi84 rfl ?_
        refine q_aload_n (n := 66) dX2_search_65 rfl rfl ?_
        refine q_iload_n (n := 67) dX2_search_66 rfl rfl ?_
        refine q_aload_n (n := 68) dX2_search_67 rfl rfl ?_
        refine q_getR (n := 71) dX2_search_68 rfl fX2_18 xi84 rfl ?_
        refine q_iload_n (n := 72) dX2_search_71 rfl rfl ?_
        refine q_ialoadE (σ 87 k) (n := 73) dX2_search_72 rfl xi87 ⟨by omega, by omega⟩ (nmW_o (by omega)) ?_
        refine q_inegS (n := 74) dX2_search_73 rfl (bd_32 (bd_neg hs1) (by decide)) ?_
        refine q_v2U (n := 77) dX2_search_74 rfl (zX2_weigh _ _ _ (by omega) (bd_neg hs1) (by intro j h1 h2; rw [nmW_E]; exact bd_le (hA j h1 h2) (by omega))) vX2_weigh lX2_53 rfl rfl xi84 rfl ?_
        skip
        refine q_iinc (n := 80) dX2_search_77 rfl (Nat.le_of_ble_eq_true rfl) rfl (q_nwid ⟨by omega, by omega⟩) (q_s1_s (q_s1_1 rfl)) ?_
        refine q_go (t := 20) dX2_search_80 (by decide) ?_
        first
          | (rw [nmW_E, addE_back, nmW_setE, kfold, if_pos h37]
             have hb := srch_le (ch := σ 86) (sd := σ 87) (L := σ 84 6) n (k + 1) (addE E (σ 87 k) i) (fun j => if j = k then i else s.1 j, s.2)
             have e12 : ((m + 1 : Nat) : Int) * 12 ^ n = m * 12 ^ n + 12 ^ n := by rw [Int.natCast_succ, Int.add_mul, Int.one_mul]
             rw [e12] at hw3
             dsimp only at hb
             exact ihm _ _ (by omega) (by omega) (by omega) (by omega))
          | (rw [kfold, if_neg h37]
             have e12 : ((m + 1 : Nat) : Int) * 12 ^ n = m * 12 ^ n + 12 ^ n := by rw [Int.natCast_succ, Int.add_mul, Int.one_mul]
             rw [e12] at hw3
             have hp : (0 : Int) < 12 ^ n := Int.pow_pos (by decide)
             exact ihm _ _ (by omega) (by omega) (by omega) (by omega))
set_option maxHeartbeats 1000000 in
set_option maxRecDepth 100000 in
theorem zX2_search (σ : q_S) (hm5 : σ 84 7 ≤ 5) (hsd : ∀ j : Int, 0 ≤ j → j < σ 84 7 → q_bd (σ 87 j) 1) : ∀ n : Nat, ∀ (k : Int) (E : Int → Int) (s : ((Int → Int) × (Int → Int) × Int)), (n : Int) + k = σ 84 7 → 0 ≤ k → (∀ j : Int, 0 ≤ j → j < 4 → q_bd (E j) (100 + k)) → 0 ≤ s.2.2 → s.2.2 + 12 ^ n ≤ 1000000 → q_Ct (mX2_search n) shX [.inr (.inr 84), .inl k] (nmW σ s E) (fun r σ' => r = none ∧ σ' = nmW σ (srch (σ 86) (σ 87) (σ 84 6) n k E s) E) := by
  intro n
  induction n with
  | zero =>
    intro k E s hk hk0 hE hw0 hw1
    refine q_ct 1 (by decide) rfl rfl ?_
    show q_WP (mX2_search 0) shX 0 [some (.inr (.inr 84)), some (.inl k), none] [] (nmW σ s E) _
    refine q_iload_n (n := 1) dX2_search_0 rfl rfl ?_
    refine q_aload_n (n := 2) dX2_search_1 rfl rfl ?_
    refine q_getIE (σ 84 7) (kI := 7) (n := 5) (by decide) dX2_search_2 rfl fX2_34 xi84 rfl rfl (nmW_o (by decide)) ?_
    refine q_icmp_ge (n := 8) (t := 13) dX2_search_5 rfl (by decide) (fun h5 => ?_) (fun h5 => ?_)
    · skip
      refine q_aload_n (n := 14) dX2_search_13 rfl rfl ?_
      refine q_v0U (n := 17) dX2_search_14 rfl (zX2_countWay σ s E (fun j h1 h2 => bd_le (hE j h1 h2) (by omega)) ⟨hw0, by omega⟩) vX2_countWay lX2_50 rfl rfl xi84 rfl ?_
      refine q_vret dX2_search_17 rfl ?_
      exact ⟨rfl, rfl⟩
    · exact absurd ‹¬ _› (by omega)
  | succ n ih =>
    intro k E s hk hk0 hE hw0 hw1
    refine q_ct 1 (by rfl) rfl rfl ?_
    show q_WP (mX2_search (n + 1)) shX 0 [some (.inr (.inr 84)), some (.inl k), none] [] (nmW σ s E) _
    refine q_iload_n (n := 1) dX2_search_0 rfl rfl ?_
    refine q_aload_n (n := 2) dX2_search_1 rfl rfl ?_
    refine q_getIE (σ 84 7) (kI := 7) (n := 5) (by decide) dX2_search_2 rfl fX2_34 xi84 rfl rfl (nmW_o (by decide)) ?_
    refine q_icmp_ge (n := 8) (t := 13) dX2_search_5 rfl (by decide) (fun h5 => ?_) (fun h5 => ?_)
    · exact absurd ‹σ 84 7 ≤ k› (by omega)
    · skip
      refine q_iload_n (n := 9) dX2_search_8 rfl rfl ?_
      refine q_iconst (n := 10) dX2_search_9 rfl (k := ?_)
      refine q_icmp_lt (n := 13) (t := 18) dX2_search_10 rfl (by decide) (fun h10 => ?_) (fun h10 => ?_)
      · skip
        refine q_iconst (n := 19) dX2_search_18 rfl (k := ?_)
        refine q_istore_n (n := 20) dX2_search_19 rfl (Nat.le_of_ble_eq_true rfl) (q_s1_s (q_s1_1 rfl)) ?_
        rw [srch]
        exact lpX2_se σ n hm5 hsd ih k E (by omega) hk0 hE 12 0 s (by decide) (by decide) hw0 (by rw [Int.pow_succ] at hw1; omega)
      · exact absurd ‹¬ _› (by omega)
