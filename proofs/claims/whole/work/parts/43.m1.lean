set_option maxRecDepth 100000 in
theorem zX8_in (sh : q_H) (v a b : Int) (σ : q_S) : q_Ct mX8_in sh [.inr (.inl v), .inr (.inl a), .inr (.inl b)] σ (fun r σ' => r = some (.inl (if a ≤ v ∧ v ≤ b then 1 else 0)) ∧ σ' = σ) := by
  refine q_ct 0 (by decide) rfl rfl ?_
  show q_WP mX8_in sh 0 [some (.inr (.inl v)), none, some (.inr (.inl a)), none, some (.inr (.inl b)), none] [] σ _
  refine q_lload_n (n := 1) dX8_in_0 rfl rfl ?_
  refine q_lload_n (n := 2) dX8_in_1 rfl rfl ?_
  refine q_lcmp (n := 3) dX8_in_2 rfl ?_
  refine q_if_lt (n := 6) (t := 17) dX8_in_3 rfl (by decide) (fun h3 => ?_) (fun h3 => ?_)
  · have h3 := q_kltt.mp h3
    refine q_iconst (n := 18) dX8_in_17 rfl (k := ?_)
    refine q_iret dX8_in_18 rfl (fun _ => rfl) ?_
    first | exact ⟨q_lf1 (by omega), rfl⟩ | exact ⟨q_lf0 (by omega), rfl⟩
  · have h3 := q_kltf.mp h3
    refine q_lload_n (n := 7) dX8_in_6 rfl rfl ?_
    refine q_lload (n := 9) dX8_in_7 rfl rfl ?_
    refine q_lcmp (n := 10) dX8_in_9 rfl ?_
    refine q_if_gt (n := 13) (t := 17) dX8_in_10 rfl (by decide) (fun h10 => ?_) (fun h10 => ?_)
    · have h10 := q_kgtt.mp h10
      refine q_iconst (n := 18) dX8_in_17 rfl (k := ?_)
      refine q_iret dX8_in_18 rfl (fun _ => rfl) ?_
      first | exact ⟨q_lf1 (by omega), rfl⟩ | exact ⟨q_lf0 (by omega), rfl⟩
    · have h10 := q_kgtf.mp h10
      refine q_iconst (n := 14) dX8_in_13 rfl (k := ?_)
      refine q_go (t := 18) dX8_in_14 (by decide) ?_
      refine q_iret dX8_in_18 rfl (fun _ => rfl) ?_
      first | exact ⟨q_lf1 (by omega), rfl⟩ | exact ⟨q_lf0 (by omega), rfl⟩
set_option maxRecDepth 100000 in
theorem zX8_has (sh : q_H) (o t : Int) (σ : q_S) : q_Ct mX8_has sh [.inl o, .inl t] σ (fun r σ' => r = some (.inl (if q_and (q_shr o t) 1 = 1 then 1 else 0)) ∧ σ' = σ) := by
  refine q_ct 0 (by decide) rfl rfl ?_
  show q_WP mX8_has sh 0 [some (.inl o), some (.inl t)] [] σ _
  refine q_iload_n (n := 1) dX8_has_0 rfl rfl ?_
  refine q_iload_n (n := 2) dX8_has_1 rfl rfl ?_
  refine q_ishr (n := 3) dX8_has_2 rfl ?_
  refine q_iconst (n := 4) dX8_has_3 rfl (k := ?_)
  refine q_iand (n := 5) dX8_has_4 rfl ?_
  refine q_iconst (n := 6) dX8_has_5 rfl (k := ?_)
  refine q_icmp_ne (n := 9) (t := 13) dX8_has_6 rfl (by decide) (fun h6 => ?_) (fun h6 => ?_)
  · skip
    refine q_iconst (n := 14) dX8_has_13 rfl (k := ?_)
    refine q_iret dX8_has_14 rfl (fun _ => rfl) ?_
    first | exact ⟨q_lf1 (by assumption), rfl⟩ | exact ⟨q_lf0 (by assumption), rfl⟩
  · skip
    refine q_iconst (n := 10) dX8_has_9 rfl (k := ?_)
    refine q_go (t := 14) dX8_has_10 (by decide) ?_
    refine q_iret dX8_has_14 rfl (fun _ => rfl) ?_
    first | exact ⟨q_lf1 (by assumption), rfl⟩ | exact ⟨q_lf0 (by assumption), rfl⟩
set_option maxRecDepth 100000 in
theorem zX8_at (t k : Int) (σ s : q_S) (ht : 0 ≤ t ∧ t < 8) (hk : 0 ≤ k ∧ k < 6) : q_Ct mX8_at shM [.inr (.inr 0), .inl t, .inl k] (ovM σ s) (fun r σ' => r = some (.inl ((pM (σ 1) 2) (6 * t + k))) ∧ σ' = ovM σ s) := by
  refine q_ct 0 (by decide) rfl rfl ?_
  show q_WP mX8_at shM 0 [some (.inr (.inr 0)), some (.inl t), some (.inl k)] [] (ovM σ s) _
  refine q_aload_n (n := 1) dX8_at_0 rfl rfl ?_
  refine q_getR (n := 4) dX8_at_1 rfl fX8_23 mi0 rfl ?_
  refine q_iconst (n := 5) dX8_at_4 rfl (k := ?_)
  refine q_bipush (n := 7) dX8_at_5 rfl (k := ?_)
  refine q_iload_n (n := 8) dX8_at_7 rfl rfl ?_
  refine q_imulS (n := 9) dX8_at_8 rfl ⟨by omega, by omega⟩ ?_
  refine q_iaddS (n := 10) dX8_at_9 rfl ⟨by omega, by omega⟩ ?_
  refine q_iload_n (n := 11) dX8_at_10 rfl rfl ?_
  refine q_iaddS (n := 12) dX8_at_11 rfl ⟨by omega, by omega⟩ ?_
  refine q_ialoadF (σ 1) (n := 13) dX8_at_12 rfl mi1 ⟨by omega, by omega⟩ rfl ?_
  refine q_iret dX8_at_13 rfl (fun _ => rfl) ?_
  refine ⟨?_, rfl⟩
  show some (Sum.inl (σ 1 (3 + 6 * t + k))) = some (Sum.inl (σ 1 (3 + (6 * t + k))))
  rw [Int.add_assoc]
theorem zX8_at0 (t : Int) (σ s : q_S) (ht : 0 ≤ t ∧ t < 8) : q_Ct mX8_at shM [.inr (.inr 0), .inl t, .inl 0] (ovM σ s) (fun r σ' => r = some (.inl (pM (σ 1) 2 (6 * t))) ∧ σ' = ovM σ s) := by
  have h := zX8_at t 0 σ s ht (by decide)
  rw [Int.add_zero] at h
  exact h
set_option maxRecDepth 100000 in
theorem zX8_kindOf (t : Int) (σ s : q_S) (ht : 0 ≤ t ∧ t < 8) : q_Ct mX8_kindOf shM [.inr (.inr 0), .inl t] (ovM σ s) (fun r σ' => r = some (.inl (σ 1 (51 + t))) ∧ σ' = ovM σ s) := by
  refine q_ct 0 (by decide) rfl rfl ?_
  show q_WP mX8_kindOf shM 0 [some (.inr (.inr 0)), some (.inl t)] [] (ovM σ s) _
  refine q_aload_n (n := 1) dX8_kindOf_0 rfl rfl ?_
  refine q_getR (n := 4) dX8_kindOf_1 rfl fX8_23 mi0 rfl ?_
  refine q_bipush (n := 6) dX8_kindOf_4 rfl (k := ?_)
  refine q_iload_n (n := 7) dX8_kindOf_6 rfl rfl ?_
  refine q_iaddS (n := 8) dX8_kindOf_7 rfl ⟨by omega, by omega⟩ ?_
  refine q_ialoadF (σ 1) (n := 9) dX8_kindOf_8 rfl mi1 ⟨by omega, by omega⟩ rfl ?_
  refine q_iret dX8_kindOf_9 rfl (fun _ => rfl) ?_
  exact ⟨rfl, rfl⟩
set_option maxRecDepth 100000 in
theorem zX8_vertexAt (v k : Int) (σ s : q_S) (hv : 0 ≤ v ∧ v < 4) (hk : 0 ≤ k ∧ k < 4) : q_Ct mX8_vertexAt shM [.inr (.inr 0), .inl v, .inl k] (ovM σ s) (fun r σ' => r = some (.inl (σ 1 (59 + 4 * v + k))) ∧ σ' = ovM σ s) := by
  refine q_ct 0 (by decide) rfl rfl ?_
  show q_WP mX8_vertexAt shM 0 [some (.inr (.inr 0)), some (.inl v), some (.inl k)] [] (ovM σ s) _
  refine q_aload_n (n := 1) dX8_vertexAt_0 rfl rfl ?_
  refine q_getR (n := 4) dX8_vertexAt_1 rfl fX8_23 mi0 rfl ?_
  refine q_bipush (n := 6) dX8_vertexAt_4 rfl (k := ?_)
  refine q_iconst (n := 7) dX8_vertexAt_6 rfl (k := ?_)
  refine q_iload_n (n := 8) dX8_vertexAt_7 rfl rfl ?_
  refine q_imulS (n := 9) dX8_vertexAt_8 rfl ⟨by omega, by omega⟩ ?_
  refine q_iaddS (n := 10) dX8_vertexAt_9 rfl ⟨by omega, by omega⟩ ?_
  refine q_iload_n (n := 11) dX8_vertexAt_10 rfl rfl ?_
  refine q_iaddS (n := 12) dX8_vertexAt_11 rfl ⟨by omega, by omega⟩ ?_
  refine q_ialoadF (σ 1) (n := 13) dX8_vertexAt_12 rfl mi1 ⟨by omega, by omega⟩ rfl ?_
  refine q_iret dX8_vertexAt_13 rfl (fun _ => rfl) ?_
  exact ⟨rfl, rfl⟩
set_option maxRecDepth 100000 in
theorem zX8_isGrid (sh : q_H) (x y : Int) (σ : q_S) : q_Ct mX8_isGrid sh [.inl x, .inl y] σ (fun r σ' => r = some (.inl (if (-20 ≤ x ∧ x ≤ 20) ∧ -20 ≤ y ∧ y ≤ 20 then 1 else 0)) ∧ σ' = σ) := by
  refine q_ct 0 (by decide) rfl rfl ?_
  show q_WP mX8_isGrid sh 0 [some (.inl x), some (.inl y)] [] σ _
  refine q_iload_n (n := 1) dX8_isGrid_0 rfl rfl ?_
  refine q_i2l (n := 2) dX8_isGrid_1 rfl ?_
  refine q_ldc2 (x := -20) (n := 5) dX8_isGrid_2 rfl kX8_9 (k := ?_)
  refine q_ldc2 (x := 20) (n := 8) dX8_isGrid_5 rfl kX8_11 (k := ?_)
  refine q_c3D (n := 11) dX8_isGrid_8 rfl (zX8_in _ _ _ _ _) vX8_in lX8_13 rfl rfl ?_
  refine q_if_eq (n := 14) (t := 32) dX8_isGrid_11 rfl (by decide) (fun h11 => ?_) (fun h11 => ?_)
  · have h11 := q_b0.mp h11
    refine q_iconst (n := 33) dX8_isGrid_32 rfl (k := ?_)
    refine q_iret dX8_isGrid_33 rfl (fun _ => rfl) ?_
    first | exact ⟨q_lf1 (by omega), rfl⟩ | exact ⟨q_lf0 (by omega), rfl⟩
  · have h11 := q_b1.mp h11
    refine q_iload_n (n := 15) dX8_isGrid_14 rfl rfl ?_
    refine q_i2l (n := 16) dX8_isGrid_15 rfl ?_
    refine q_ldc2 (x := -20) (n := 19) dX8_isGrid_16 rfl kX8_9 (k := ?_)
    refine q_ldc2 (x := 20) (n := 22) dX8_isGrid_19 rfl kX8_11 (k := ?_)
    refine q_c3D (n := 25) dX8_isGrid_22 rfl (zX8_in _ _ _ _ _) vX8_in lX8_13 rfl rfl ?_
    refine q_if_eq (n := 28) (t := 32) dX8_isGrid_25 rfl (by decide) (fun h25 => ?_) (fun h25 => ?_)
    · have h25 := q_b0.mp h25
      refine q_iconst (n := 33) dX8_isGrid_32 rfl (k := ?_)
      refine q_iret dX8_isGrid_33 rfl (fun _ => rfl) ?_
      first | exact ⟨q_lf1 (by omega), rfl⟩ | exact ⟨q_lf0 (by omega), rfl⟩
    · have h25 := q_b1.mp h25
      refine q_iconst (n := 29) dX8_isGrid_28 rfl (k := ?_)
      refine q_go (t := 33) dX8_isGrid_29 (by decide) ?_
      refine q_iret dX8_isGrid_33 rfl (fun _ => rfl) ?_
      first | exact ⟨q_lf1 (by omega), rfl⟩ | exact ⟨q_lf0 (by omega), rfl⟩
set_option maxRecDepth 100000 in
theorem zX8_isTrack (t : Int) (σ s : q_S) (hn : 0 ≤ σ 1 1 ∧ σ 1 1 ≤ 8) : q_Ct mX8_isTrack shM [.inr (.inr 0), .inl t] (ovM σ s) (fun r σ' => r = some (.inl (if 0 ≤ t ∧ t < σ 1 1 then 1 else 0)) ∧ σ' = ovM σ s) := by
  refine q_ct 0 (by decide) rfl rfl ?_
  show q_WP mX8_isTrack shM 0 [some (.inr (.inr 0)), some (.inl t)] [] (ovM σ s) _
  refine q_iload_n (n := 1) dX8_isTrack_0 rfl rfl ?_
  refine q_i2l (n := 2) dX8_isTrack_1 rfl ?_
  refine q_lconst (x := 0) (n := 3) dX8_isTrack_2 rfl (k := ?_)
  refine q_aload_n (n := 4) dX8_isTrack_3 rfl rfl ?_
  refine q_getR (n := 7) dX8_isTrack_4 rfl fX8_23 mi0 rfl ?_
  refine q_iconst (n := 8) dX8_isTrack_7 rfl (k := ?_)
  refine q_ialoadF (σ 1) (n := 9) dX8_isTrack_8 rfl mi1 ⟨by omega, by omega⟩ rfl ?_
  refine q_iconst (n := 10) dX8_isTrack_9 rfl (k := ?_)
  refine q_isubS (n := 11) dX8_isTrack_10 rfl ⟨by omega, by omega⟩ ?_
  refine q_i2l (n := 12) dX8_isTrack_11 rfl ?_
  refine q_c3D (n := 15) dX8_isTrack_12 rfl (zX8_in _ _ _ _ _) vX8_in lX8_13 rfl rfl ?_
  refine q_iret dX8_isTrack_15 rfl (fun _ => by split <;> rfl) ?_
  refine ⟨congrArg some (congrArg Sum.inl ?_), rfl⟩
  by_cases h : 0 ≤ t ∧ t < σ 1 1
  · rw [if_pos h, if_pos (by omega)]
  · rw [if_neg h, if_neg (by omega)]
set_option maxRecDepth 100000 in
theorem zX8_isVertex (t : Int) (σ s : q_S) (hn : 0 ≤ σ 1 2 ∧ σ 1 2 ≤ 8) : q_Ct mX8_isVertex shM [.inr (.inr 0), .inl t] (ovM σ s) (fun r σ' => r = some (.inl (if 0 ≤ t ∧ t < σ 1 2 then 1 else 0)) ∧ σ' = ovM σ s) := by
  refine q_ct 0 (by decide) rfl rfl ?_
  show q_WP mX8_isVertex shM 0 [some (.inr (.inr 0)), some (.inl t)] [] (ovM σ s) _
  refine q_iload_n (n := 1) dX8_isVertex_0 rfl rfl ?_
  refine q_i2l (n := 2) dX8_isVertex_1 rfl ?_
  refine q_lconst (x := 0) (n := 3) dX8_isVertex_2 rfl (k := ?_)
  refine q_aload_n (n := 4) dX8_isVertex_3 rfl rfl ?_
  refine q_getR (n := 7) dX8_isVertex_4 rfl fX8_23 mi0 rfl ?_
  refine q_iconst (n := 8) dX8_isVertex_7 rfl (k := ?_)
  refine q_ialoadF (σ 1) (n := 9) dX8_isVertex_8 rfl mi1 ⟨by omega, by omega⟩ rfl ?_
  refine q_iconst (n := 10) dX8_isVertex_9 rfl (k := ?_)
  refine q_isubS (n := 11) dX8_isVertex_10 rfl ⟨by omega, by omega⟩ ?_
  refine q_i2l (n := 12) dX8_isVertex_11 rfl ?_
  refine q_c3D (n := 15) dX8_isVertex_12 rfl (zX8_in _ _ _ _ _) vX8_in lX8_13 rfl rfl ?_
  refine q_iret dX8_isVertex_15 rfl (fun _ => by split <;> rfl) ?_
  refine ⟨congrArg some (congrArg Sum.inl ?_), rfl⟩
  by_cases h : 0 ≤ t ∧ t < σ 1 2
  · rw [if_pos h, if_pos (by omega)]
  · rw [if_neg h, if_neg (by omega)]
set_option maxRecDepth 100000 in
theorem zX8_isKind (sh : q_H) (x : Int) (σ : q_S) : q_Ct mX8_isKind sh [.inl x] σ (fun r σ' => r = some (.inl (if 0 ≤ x ∧ x < 12 then 1 else 0)) ∧ σ' = σ) := by
  refine q_ct 0 (by decide) rfl rfl ?_
  show q_WP mX8_isKind sh 0 [some (.inl x)] [] σ _
  refine q_iload_n (n := 1) dX8_isKind_0 rfl rfl ?_
  refine q_i2l (n := 2) dX8_isKind_1 rfl ?_
  refine q_lconst (x := 0) (n := 3) dX8_isKind_2 rfl (k := ?_)
  refine q_ldc2 (x := 11) (n := 6) dX8_isKind_3 rfl kX8_88 (k := ?_)
  refine q_c3D (n := 9) dX8_isKind_6 rfl (zX8_in _ _ _ _ _) vX8_in lX8_13 rfl rfl ?_
  refine q_iret dX8_isKind_9 rfl (fun _ => by split <;> rfl) ?_
  refine ⟨congrArg some (congrArg Sum.inl ?_), rfl⟩
  by_cases h : 0 ≤ x ∧ x < 12
  · rw [if_pos h, if_pos (by omega)]
  · rw [if_neg h, if_neg (by omega)]
set_option maxRecDepth 100000 in
theorem zX8_isLaw (sh : q_H) (x : Int) (σ : q_S) : q_Ct mX8_isLaw sh [.inl x] σ (fun r σ' => r = some (.inl (if 0 ≤ x ∧ x < 3 then 1 else 0)) ∧ σ' = σ) := by
  refine q_ct 0 (by decide) rfl rfl ?_
  show q_WP mX8_isLaw sh 0 [some (.inl x)] [] σ _
  refine q_iload_n (n := 1) dX8_isLaw_0 rfl rfl ?_
  refine q_i2l (n := 2) dX8_isLaw_1 rfl ?_
  refine q_lconst (x := 0) (n := 3) dX8_isLaw_2 rfl (k := ?_)
  refine q_ldc2 (x := 2) (n := 6) dX8_isLaw_3 rfl kX8_113 (k := ?_)
  refine q_c3D (n := 9) dX8_isLaw_6 rfl (zX8_in _ _ _ _ _) vX8_in lX8_13 rfl rfl ?_
  refine q_iret dX8_isLaw_9 rfl (fun _ => by split <;> rfl) ?_
  refine ⟨congrArg some (congrArg Sum.inl ?_), rfl⟩
  by_cases h : 0 ≤ x ∧ x < 3
  · rw [if_pos h, if_pos (by omega)]
  · rw [if_neg h, if_neg (by omega)]
set_option maxRecDepth 100000 in
theorem zX8_isList (sh : q_H) (x : Int) (σ : q_S) : q_Ct mX8_isList sh [.inl x] σ (fun r σ' => r = some (.inl (if 0 ≤ x ∧ x < 3 then 1 else 0)) ∧ σ' = σ) := by
  refine q_ct 0 (by decide) rfl rfl ?_
  show q_WP mX8_isList sh 0 [some (.inl x)] [] σ _
  refine q_iload_n (n := 1) dX8_isList_0 rfl rfl ?_
  refine q_i2l (n := 2) dX8_isList_1 rfl ?_
  refine q_lconst (x := 0) (n := 3) dX8_isList_2 rfl (k := ?_)
  refine q_ldc2 (x := 2) (n := 6) dX8_isList_3 rfl kX8_113 (k := ?_)
  refine q_c3D (n := 9) dX8_isList_6 rfl (zX8_in _ _ _ _ _) vX8_in lX8_13 rfl rfl ?_
  refine q_iret dX8_isList_9 rfl (fun _ => by split <;> rfl) ?_
  refine ⟨congrArg some (congrArg Sum.inl ?_), rfl⟩
  by_cases h : 0 ≤ x ∧ x < 3
  · rw [if_pos h, if_pos (by omega)]
  · rw [if_neg h, if_neg (by omega)]
set_option maxRecDepth 100000 in
theorem zX8_isNeutral (x : Int) (σ s : q_S) (hI : IM σ) : q_Ct mX8_isNeutral shM [.inr (.inr 0), .inl x] (ovM σ s) (fun r σ' => r = some (.inl (if (0 ≤ x ∧ x < 12) ∧ num x 0 = 0 then 1 else 0)) ∧ σ' = ovM σ s) := by
  refine q_ct 0 (by decide) rfl rfl ?_
  show q_WP mX8_isNeutral shM 0 [some (.inr (.inr 0)), some (.inl x)] [] (ovM σ s) _
  refine q_iload_n (n := 1) dX8_isNeutral_0 rfl rfl ?_
  refine q_c1D (n := 4) dX8_isNeutral_1 rfl (zX8_isKind _ _ _) vX8_isKind lX8_90 rfl rfl ?_
  refine q_if_eq (n := 7) (t := 21) dX8_isNeutral_4 rfl (by decide) (fun h4 => ?_) (fun h4 => ?_)
  · have h4 := q_b0.mp h4
    refine q_iconst (n := 22) dX8_isNeutral_21 rfl (k := ?_)
    refine q_iret dX8_isNeutral_22 rfl (fun _ => rfl) ?_
    first
      | exact ⟨q_lf1 ⟨h4, by omega⟩, rfl⟩
      | exact ⟨q_lf0 (fun z => h4 z.1), rfl⟩
      | exact ⟨q_lf0 (fun z => by have := z.2; omega), rfl⟩
  · have h4 := q_b1.mp h4
    have hc := (hI.2.2.1 x h4.1 h4.2).1.1
    refine q_aload_n (n := 8) dX8_isNeutral_7 rfl rfl ?_
    refine q_getR (n := 11) dX8_isNeutral_8 rfl fX8_27 mi0 rfl ?_
    refine q_iload_n (n := 12) dX8_isNeutral_11 rfl rfl ?_
    refine q_ialoadF (σ 2) (n := 13) dX8_isNeutral_12 rfl mi2 ⟨by omega, by omega⟩ rfl ?_
    refine q_iconst (n := 14) dX8_isNeutral_13 rfl (k := ?_)
    refine q_icmp_ne (n := 17) (t := 21) dX8_isNeutral_14 rfl (by decide) (fun h14 => ?_) (fun h14 => ?_)
    · skip
      refine q_iconst (n := 22) dX8_isNeutral_21 rfl (k := ?_)
      refine q_iret dX8_isNeutral_22 rfl (fun _ => rfl) ?_
      first
        | exact ⟨q_lf1 ⟨h4, by omega⟩, rfl⟩
        | exact ⟨q_lf0 (fun z => h4 z.1), rfl⟩
        | exact ⟨q_lf0 (fun z => by have := z.2; omega), rfl⟩
    · skip
      refine q_iconst (n := 18) dX8_isNeutral_17 rfl (k := ?_)
      refine q_go (t := 22) dX8_isNeutral_18 (by decide) ?_
      refine q_iret dX8_isNeutral_22 rfl (fun _ => rfl) ?_
      first
        | exact ⟨q_lf1 ⟨h4, by omega⟩, rfl⟩
        | exact ⟨q_lf0 (fun z => h4 z.1), rfl⟩
        | exact ⟨q_lf0 (fun z => by have := z.2; omega), rfl⟩
set_option maxRecDepth 100000 in
theorem zX8_numbers (k x : Int) (σ s : q_S) (hI : IM σ) : q_Ct mX8_numbers shM [.inr (.inr 0), .inl k, .inl x] (ovM σ s) (fun r σ' => r = some (.inl (fNumbers k x)) ∧ ∃ s', σ' = ovM σ s') := by
  refine q_ct 0 (by decide) rfl rfl ?_
  show q_WP mX8_numbers shM 0 [some (.inr (.inr 0)), some (.inl k), some (.inl x)] [] (ovM σ s) _
  refine q_iload_n (n := 1) dX8_numbers_0 rfl rfl ?_
  refine q_c1D (n := 4) dX8_numbers_1 rfl (zX8_isKind _ _ _) vX8_isKind lX8_90 rfl rfl ?_
  refine q_if_ne (n := 7) (t := 9) dX8_numbers_4 rfl (by decide) (fun h4 => ?_) (fun h4 => ?_)
  · have h4 := q_b1.mp h4
    obtain ⟨⟨c1, c2, c3⟩, c4, c5, c6⟩ := hI.2.2.1 k h4.1 h4.2
    unfold num at c1 c2 c3 c4
    unfold mss at c5
    refine q_iload_n (n := 10) dX8_numbers_9 rfl rfl ?_
    rcases (by omega : (x < 0 ∨ 4 < x) ∨ x = 0 ∨ x = 1 ∨ x = 2 ∨ x = 3 ∨ x = 4) with h10 | h10 | h10 | h10 | h10 | h10
    · refine q_tableOut (t := 79) dX8_numbers_10 h10 (by decide) ?_
      refine q_iconst (n := 80) dX8_numbers_79 rfl (k := ?_)
      refine q_iret dX8_numbers_80 rfl (fun _ => rfl) ?_
      refine ⟨congrArg some (congrArg Sum.inl (Eq.symm ?_)), _, rfl⟩
      unfold fNumbers
      first
        | exact if_pos (Or.inl h4)
        | exact if_pos (by omega)
        | (rw [if_neg (by omega), if_pos (by omega)]; exact c5.symm)
        | (rw [if_neg (by omega), if_neg (by omega)]
           first
             | (rw [h10]; exact c1.symm)
             | (rw [h10]; exact c2.symm)
             | (rw [h10]; exact c3.symm)
             | (rw [h10]; exact c4.symm))
    · refine q_topI 0 h10 ?_
      refine q_tableIn (t := 44) dX8_numbers_10 (by decide) (by decide) rfl (by decide) ?_
      refine q_aload_n (n := 45) dX8_numbers_44 rfl rfl ?_
      refine q_getR (n := 48) dX8_numbers_45 rfl fX8_27 mi0 rfl ?_
      refine q_iload_n (n := 49) dX8_numbers_48 rfl rfl ?_
      refine q_ialoadF (σ 2) (n := 50) dX8_numbers_49 rfl mi2 ⟨by omega, by omega⟩ rfl ?_
      refine q_iret dX8_numbers_50 rfl (fun _ => rfl) ?_
      refine ⟨congrArg some (congrArg Sum.inl (Eq.symm ?_)), _, rfl⟩
      unfold fNumbers
      first
        | exact if_pos (Or.inl h4)
        | exact if_pos (by omega)
        | (rw [if_neg (by omega), if_pos (by omega)]; exact c5.symm)
        | (rw [if_neg (by omega), if_neg (by omega)]
           first
             | (rw [h10]; exact c1.symm)
             | (rw [h10]; exact c2.symm)
             | (rw [h10]; exact c3.symm)
             | (rw [h10]; exact c4.symm))
    · refine q_topI 1 h10 ?_
      refine q_tableIn (t := 51) dX8_numbers_10 (by decide) (by decide) rfl (by decide) ?_
      refine q_aload_n (n := 52) dX8_numbers_51 rfl rfl ?_
      refine q_getR (n := 55) dX8_numbers_52 rfl fX8_30 mi0 rfl ?_
      refine q_iload_n (n := 56) dX8_numbers_55 rfl rfl ?_
      refine q_ialoadF (σ 3) (n := 57) dX8_numbers_56 rfl mi3 ⟨by omega, by omega⟩ rfl ?_
      refine q_iret dX8_numbers_57 rfl (fun _ => rfl) ?_
      refine ⟨congrArg some (congrArg Sum.inl (Eq.symm ?_)), _, rfl⟩
      unfold fNumbers
      first
        | exact if_pos (Or.inl h4)
        | exact if_pos (by omega)
        | (rw [if_neg (by omega), if_pos (by omega)]; exact c5.symm)
        | (rw [if_neg (by omega), if_neg (by omega)]
           first
             | (rw [h10]; exact c1.symm)
             | (rw [h10]; exact c2.symm)
             | (rw [h10]; exact c3.symm)
             | (rw [h10]; exact c4.symm))
    · refine q_topI 2 h10 ?_
      refine q_tableIn (t := 58) dX8_numbers_10 (by decide) (by decide) rfl (by decide) ?_
      refine q_aload_n (n := 59) dX8_numbers_58 rfl rfl ?_
      refine q_getR (n := 62) dX8_numbers_59 rfl fX8_33 mi0 rfl ?_
      refine q_iload_n (n := 63) dX8_numbers_62 rfl rfl ?_
      refine q_ialoadF (σ 4) (n := 64) dX8_numbers_63 rfl mi4 ⟨by omega, by omega⟩ rfl ?_
      refine q_iret dX8_numbers_64 rfl (fun _ => rfl) ?_
      refine ⟨congrArg some (congrArg Sum.inl (Eq.symm ?_)), _, rfl⟩
      unfold fNumbers
      first
        | exact if_pos (Or.inl h4)
        | exact if_pos (by omega)
        | (rw [if_neg (by omega), if_pos (by omega)]; exact c5.symm)
        | (rw [if_neg (by omega), if_neg (by omega)]
           first
             | (rw [h10]; exact c1.symm)
             | (rw [h10]; exact c2.symm)
             | (rw [h10]; exact c3.symm)
             | (rw [h10]; exact c4.symm))
    · refine q_topI 3 h10 ?_
      refine q_tableIn (t := 65) dX8_numbers_10 (by decide) (by decide) rfl (by decide) ?_
      refine q_aload_n (n := 66) dX8_numbers_65 rfl rfl ?_
      refine q_getR (n := 69) dX8_numbers_66 rfl fX8_36 mi0 rfl ?_
      refine q_iload_n (n := 70) dX8_numbers_69 rfl rfl ?_
      refine q_ialoadF (σ 5) (n := 71) dX8_numbers_70 rfl mi5 ⟨by omega, by omega⟩ rfl ?_
      refine q_iret dX8_numbers_71 rfl (fun _ => rfl) ?_
      refine ⟨congrArg some (congrArg Sum.inl (Eq.symm ?_)), _, rfl⟩
      unfold fNumbers
      first
        | exact if_pos (Or.inl h4)
        | exact if_pos (by omega)
        | (rw [if_neg (by omega), if_pos (by omega)]; exact c5.symm)
        | (rw [if_neg (by omega), if_neg (by omega)]
           first
             | (rw [h10]; exact c1.symm)
             | (rw [h10]; exact c2.symm)
             | (rw [h10]; exact c3.symm)
             | (rw [h10]; exact c4.symm))
    · refine q_topI 4 h10 ?_
      refine q_tableIn (t := 72) dX8_numbers_10 (by decide) (by decide) rfl (by decide) ?_
      refine q_aload_n (n := 73) dX8_numbers_72 rfl rfl ?_
      refine q_getR (n := 76) dX8_numbers_73 rfl fX8_39 mi0 rfl ?_
      refine q_iload_n (n := 77) dX8_numbers_76 rfl rfl ?_
      refine q_ialoadF (σ 6) (n := 78) dX8_numbers_77 rfl mi6 ⟨by omega, by omega⟩ rfl ?_
      refine q_iret dX8_numbers_78 rfl (fun _ => rfl) ?_
      refine ⟨congrArg some (congrArg Sum.inl (Eq.symm ?_)), _, rfl⟩
      unfold fNumbers
      first
        | exact if_pos (Or.inl h4)
        | exact if_pos (by omega)
        | (rw [if_neg (by omega), if_pos (by omega)]; exact c5.symm)
        | (rw [if_neg (by omega), if_neg (by omega)]
           first
             | (rw [h10]; exact c1.symm)
             | (rw [h10]; exact c2.symm)
             | (rw [h10]; exact c3.symm)
             | (rw [h10]; exact c4.symm))
  · have h4 := q_b0.mp h4
    refine q_iconst (n := 8) dX8_numbers_7 rfl (k := ?_)
    refine q_iret dX8_numbers_8 rfl (fun _ => rfl) ?_
    refine ⟨congrArg some (congrArg Sum.inl (Eq.symm ?_)), _, rfl⟩
    unfold fNumbers
    first
      | exact if_pos (Or.inl h4)
      | exact if_pos (by omega)
      | (rw [if_neg (by omega), if_pos (by omega)]; exact c5.symm)
      | (rw [if_neg (by omega), if_neg (by omega)]
         first
           | (rw [h10]; exact c1.symm)
           | (rw [h10]; exact c2.symm)
           | (rw [h10]; exact c3.symm)
           | (rw [h10]; exact c4.symm))
set_option maxRecDepth 100000 in
theorem zX8_bendOf (t : Int) (σ s : q_S) (hI : IM σ) (ht : 0 ≤ t ∧ t < σ 1 1) : q_Ct mX8_bendOf shM [.inr (.inr 0), .inl t] (ovM σ s) (fun r σ' => r = some (.inr (.inl (lB (pM (σ 1) 2) (6 * t)))) ∧ σ' = ovM σ s) := by
  refine q_ct 8 (by decide) rfl rfl ?_
  show q_WP mX8_bendOf shM 0 [some (.inr (.inr 0)), some (.inl t), none, none, none, none, none, none, none, none] [] (ovM σ s) _
  have hg := hI.pt ht
  have hn := hI.nt
  have ht8 : 0 ≤ t ∧ t < 8 := by omega
  refine q_aload_n (n := 1) dX8_bendOf_0 rfl rfl ?_
  refine q_iload_n (n := 2) dX8_bendOf_1 rfl rfl ?_
  refine q_iconst (n := 3) dX8_bendOf_2 rfl (k := ?_)
  refine q_v2D (n := 6) dX8_bendOf_3 rfl (zX8_at _ _ σ _ (by omega) (by omega)) vX8_at lX8_101 rfl rfl mi0 rfl ?_
  refine q_aload_n (n := 7) dX8_bendOf_6 rfl rfl ?_
  refine q_iload_n (n := 8) dX8_bendOf_7 rfl rfl ?_
  refine q_iconst (n := 9) dX8_bendOf_8 rfl (k := ?_)
  refine q_v2D (n := 12) dX8_bendOf_9 rfl (zX8_at0 _ σ _ (by omega)) vX8_at lX8_101 rfl rfl mi0 rfl ?_
  have b1_ := bd_sub (C := 40) hg.2.2.1 hg.1 (by decide)
  refine q_isubS (n := 13) dX8_bendOf_12 rfl (bd_32 b1_ (by decide)) ?_
  refine q_i2l (n := 14) dX8_bendOf_13 rfl ?_
  refine q_lstore_n (n := 15) dX8_bendOf_14 rfl (Nat.le_of_ble_eq_true rfl) (q_s2_s (q_s2_1 rfl)) ?_
  refine q_aload_n (n := 16) dX8_bendOf_15 rfl rfl ?_
  refine q_iload_n (n := 17) dX8_bendOf_16 rfl rfl ?_
  refine q_iconst (n := 18) dX8_bendOf_17 rfl (k := ?_)
  refine q_v2D (n := 21) dX8_bendOf_18 rfl (zX8_at _ _ σ _ (by omega) (by omega)) vX8_at lX8_101 rfl rfl mi0 rfl ?_
  refine q_aload_n (n := 22) dX8_bendOf_21 rfl rfl ?_
  refine q_iload_n (n := 23) dX8_bendOf_22 rfl rfl ?_
  refine q_iconst (n := 24) dX8_bendOf_23 rfl (k := ?_)
  refine q_v2D (n := 27) dX8_bendOf_24 rfl (zX8_at _ _ σ _ (by omega) (by omega)) vX8_at lX8_101 rfl rfl mi0 rfl ?_
  have b2_ := bd_sub (C := 40) hg.2.2.2.1 hg.2.1 (by decide)
  refine q_isubS (n := 28) dX8_bendOf_27 rfl (bd_32 b2_ (by decide)) ?_
  refine q_i2l (n := 29) dX8_bendOf_28 rfl ?_
  refine q_lstore (n := 31) dX8_bendOf_29 rfl (Nat.le_of_ble_eq_true rfl) (q_s2_s (q_s2_s (q_s2_s (q_s2_1 rfl)))) ?_
  refine q_aload_n (n := 32) dX8_bendOf_31 rfl rfl ?_
  refine q_iload_n (n := 33) dX8_bendOf_32 rfl rfl ?_
  refine q_iconst (n := 34) dX8_bendOf_33 rfl (k := ?_)
  refine q_v2D (n := 37) dX8_bendOf_34 rfl (zX8_at _ _ σ _ (by omega) (by omega)) vX8_at lX8_101 rfl rfl mi0 rfl ?_
  refine q_aload_n (n := 38) dX8_bendOf_37 rfl rfl ?_
  refine q_iload_n (n := 39) dX8_bendOf_38 rfl rfl ?_
  refine q_iconst (n := 40) dX8_bendOf_39 rfl (k := ?_)
  refine q_v2D (n := 43) dX8_bendOf_40 rfl (zX8_at0 _ σ _ (by omega)) vX8_at lX8_101 rfl rfl mi0 rfl ?_
  have b3_ := bd_sub (C := 40) hg.2.2.2.2.1 hg.1 (by decide)
  refine q_isubS (n := 44) dX8_bendOf_43 rfl (bd_32 b3_ (by decide)) ?_
  refine q_i2l (n := 45) dX8_bendOf_44 rfl ?_
  refine q_lstore (n := 47) dX8_bendOf_45 rfl (Nat.le_of_ble_eq_true rfl) (q_s2_s (q_s2_s (q_s2_s (q_s2_s (q_s2_s (q_s2_1 rfl)))))) ?_
  refine q_aload_n (n := 48) dX8_bendOf_47 rfl rfl ?_
  refine q_iload_n (n := 49) dX8_bendOf_48 rfl rfl ?_
  refine q_iconst (n := 50) dX8_bendOf_49 rfl (k := ?_)
  refine q_v2D (n := 53) dX8_bendOf_50 rfl (zX8_at _ _ σ _ (by omega) (by omega)) vX8_at lX8_101 rfl rfl mi0 rfl ?_
  refine q_aload_n (n := 54) dX8_bendOf_53 rfl rfl ?_
  refine q_iload_n (n := 55) dX8_bendOf_54 rfl rfl ?_
  refine q_iconst (n := 56) dX8_bendOf_55 rfl (k := ?_)
  refine q_v2D (n := 59) dX8_bendOf_56 rfl (zX8_at _ _ σ _ (by omega) (by omega)) vX8_at lX8_101 rfl rfl mi0 rfl ?_
  have b4_ := bd_sub (C := 40) hg.2.2.2.2.2 hg.2.1 (by decide)
  refine q_isubS (n := 60) dX8_bendOf_59 rfl (bd_32 b4_ (by decide)) ?_
  refine q_i2l (n := 61) dX8_bendOf_60 rfl ?_
  refine q_lstore (n := 63) dX8_bendOf_61 rfl (Nat.le_of_ble_eq_true rfl) (q_s2_s (q_s2_s (q_s2_s (q_s2_s (q_s2_s (q_s2_s (q_s2_s (q_s2_1 rfl)))))))) ?_
  refine q_lload_n (n := 64) dX8_bendOf_63 rfl rfl ?_
  refine q_lload (n := 66) dX8_bendOf_64 rfl rfl ?_
  have b5_ := bd_mul (C := 1600) b1_ b4_ (by decide)
  refine q_lmulS (n := 67) dX8_bendOf_66 rfl (bd_64 b5_ (by decide)) ?_
  refine q_lload (n := 69) dX8_bendOf_67 rfl rfl ?_
  refine q_lload (n := 71) dX8_bendOf_69 rfl rfl ?_
  have b6_ := bd_mul (C := 1600) b2_ b3_ (by decide)
  refine q_lmulS (n := 72) dX8_bendOf_71 rfl (bd_64 b6_ (by decide)) ?_
  have b7_ := bd_sub (C := 3200) b5_ b6_ (by decide)
  refine q_lsubS (n := 73) dX8_bendOf_72 rfl (bd_64 b7_ (by decide)) ?_
  refine q_lret dX8_bendOf_73 rfl ?_
  exact ⟨rfl, rfl⟩
set_option maxRecDepth 100000 in
theorem zX8_turnOf (t : Int) (σ s : q_S) (hI : IM σ) (ht : 0 ≤ t ∧ t < σ 1 1) : q_Ct mX8_turnOf shM [.inr (.inr 0), .inl t] (ovM σ s) (fun r σ' => r = some (.inl (sgn (lB (pM (σ 1) 2) (6 * t)))) ∧ σ' = ovM σ s) := by
  refine q_ct 2 (by decide) rfl rfl ?_
  show q_WP mX8_turnOf shM 0 [some (.inr (.inr 0)), some (.inl t), none, none] [] (ovM σ s) _
  have hg := hI.pt ht
  have hn := hI.nt
  have ht8 : 0 ≤ t ∧ t < 8 := by omega
  refine q_aload_n (n := 1) dX8_turnOf_0 rfl rfl ?_
  refine q_iload_n (n := 2) dX8_turnOf_1 rfl rfl ?_
  refine q_v1D (n := 5) dX8_turnOf_2 rfl (zX8_bendOf _ σ _ hI (by omega)) vX8_bendOf lX8_105 rfl rfl mi0 rfl ?_
  refine q_lstore_n (n := 6) dX8_turnOf_5 rfl (Nat.le_of_ble_eq_true rfl) (q_s2_s (q_s2_1 rfl)) ?_
  refine q_lload_n (n := 7) dX8_turnOf_6 rfl rfl ?_
  refine q_lconst (x := 0) (n := 8) dX8_turnOf_7 rfl (k := ?_)
  refine q_lcmp (n := 9) dX8_turnOf_8 rfl ?_
  refine q_if_le (n := 12) (t := 16) dX8_turnOf_9 rfl (by decide) (fun h9 => ?_) (fun h9 => ?_)
  · have h9 := q_klet.mp h9
    refine q_lload_n (n := 17) dX8_turnOf_16 rfl rfl ?_
    refine q_lconst (x := 0) (n := 18) dX8_turnOf_17 rfl (k := ?_)
    refine q_lcmp (n := 19) dX8_turnOf_18 rfl ?_
    refine q_if_ge (n := 22) (t := 26) dX8_turnOf_19 rfl (by decide) (fun h19 => ?_) (fun h19 => ?_)
    · have h19 := q_kget.mp h19
      refine q_iconst (n := 27) dX8_turnOf_26 rfl (k := ?_)
      refine q_iret dX8_turnOf_27 rfl (fun _ => rfl) ?_
      unfold sgn
      first
        | exact ⟨by rw [if_pos (by assumption)], rfl⟩
        | exact ⟨by rw [if_neg (by omega), if_pos (by assumption)], rfl⟩
        | exact ⟨by rw [if_neg (by omega), if_neg (by omega)], rfl⟩
    · have h19 := q_kgef.mp h19
      refine q_iconst (n := 23) dX8_turnOf_22 rfl (k := ?_)
      refine q_go (t := 27) dX8_turnOf_23 (by decide) ?_
      refine q_iret dX8_turnOf_27 rfl (fun _ => rfl) ?_
      unfold sgn
      first
        | exact ⟨by rw [if_pos (by assumption)], rfl⟩
        | exact ⟨by rw [if_neg (by omega), if_pos (by assumption)], rfl⟩
        | exact ⟨by rw [if_neg (by omega), if_neg (by omega)], rfl⟩
  · have h9 := q_klef.mp h9
    refine q_iconst (n := 13) dX8_turnOf_12 rfl (k := ?_)
    refine q_go (t := 27) dX8_turnOf_13 (by decide) ?_
    refine q_iret dX8_turnOf_27 rfl (fun _ => rfl) ?_
    unfold sgn
    first
      | exact ⟨by rw [if_pos (by assumption)], rfl⟩
      | exact ⟨by rw [if_neg (by omega), if_pos (by assumption)], rfl⟩
      | exact ⟨by rw [if_neg (by omega), if_neg (by omega)], rfl⟩
def midM (s : q_S) (f : Int → Int) (t : Int) : Prop := s 0 12 = un f t ∧ s 0 10 = sgn (lB f (6 * t)) * mXd f (6 * t) ∧ s 0 11 = sgn (lB f (6 * t)) * mYd f (6 * t)
theorem un_m {f : Int → Int} {t : Int} : sgn (lB f (6 * t)) * 2 * lB f (6 * t) = un f t := by
  unfold un
  exact sgn_abs _
set_option maxRecDepth 100000 in
theorem zX8_tellsMiddle (t : Int) (σ s : q_S) (hI : IM σ) (ht : 0 ≤ t ∧ t < σ 1 1) : q_Ct mX8_tellsMiddle shM [.inr (.inr 0), .inl t] (ovM σ s) (fun r σ' => r = none ∧ (∃ s', σ' = ovM σ s' ∧ midM s' (pM (σ 1) 2) t ∧ ∀ c x : Int, ¬ (c = 0 ∧ 10 ≤ x ∧ x ≤ 14) → s' c x = s c x)) := by
  refine q_ct 14 (by decide) rfl rfl ?_
  show q_WP mX8_tellsMiddle shM 0 [some (.inr (.inr 0)), some (.inl t), none, none, none, none, none, none, none, none, none, none, none, none, none, none] [] (ovM σ s) _
  have hg := hI.pt ht
  have hn := hI.nt
  have ht8 : 0 ≤ t ∧ t < 8 := by omega
  refine q_aload_n (n := 1) dX8_tellsMiddle_0 rfl rfl ?_
  refine q_iload_n (n := 2) dX8_tellsMiddle_1 rfl rfl ?_
  refine q_iconst (n := 3) dX8_tellsMiddle_2 rfl (k := ?_)
  refine q_v2D (n := 6) dX8_tellsMiddle_3 rfl (zX8_at _ _ σ _ (by omega) (by omega)) vX8_at lX8_101 rfl rfl mi0 rfl ?_
  refine q_aload_n (n := 7) dX8_tellsMiddle_6 rfl rfl ?_
  refine q_iload_n (n := 8) dX8_tellsMiddle_7 rfl rfl ?_
  refine q_iconst (n := 9) dX8_tellsMiddle_8 rfl (k := ?_)
  refine q_v2D (n := 12) dX8_tellsMiddle_9 rfl (zX8_at0 _ σ _ (by omega)) vX8_at lX8_101 rfl rfl mi0 rfl ?_
  have b8_ := bd_sub (C := 40) hg.2.2.1 hg.1 (by decide)
  refine q_isubS (n := 13) dX8_tellsMiddle_12 rfl (bd_32 b8_ (by decide)) ?_
  refine q_i2l (n := 14) dX8_tellsMiddle_13 rfl ?_
  refine q_lstore_n (n := 15) dX8_tellsMiddle_14 rfl (Nat.le_of_ble_eq_true rfl) (q_s2_s (q_s2_1 rfl)) ?_
  refine q_aload_n (n := 16) dX8_tellsMiddle_15 rfl rfl ?_
  refine q_iload_n (n := 17) dX8_tellsMiddle_16 rfl rfl ?_
  refine q_iconst (n := 18) dX8_tellsMiddle_17 rfl (k := ?_)
  refine q_v2D (n := 21) dX8_tellsMiddle_18 rfl (zX8_at _ _ σ _ (by omega) (by omega)) vX8_at lX8_101 rfl rfl mi0 rfl ?_
  refine q_aload_n (n := 22) dX8_tellsMiddle_21 rfl rfl ?_
  refine q_iload_n (n := 23) dX8_tellsMiddle_22 rfl rfl ?_
  refine q_iconst (n := 24) dX8_tellsMiddle_23 rfl (k := ?_)
  refine q_v2D (n := 27) dX8_tellsMiddle_24 rfl (zX8_at _ _ σ _ (by omega) (by omega)) vX8_at lX8_101 rfl rfl mi0 rfl ?_
  have b9_ := bd_sub (C := 40) hg.2.2.2.1 hg.2.1 (by decide)
  refine q_isubS (n := 28) dX8_tellsMiddle_27 rfl (bd_32 b9_ (by decide)) ?_
  refine q_i2l (n := 29) dX8_tellsMiddle_28 rfl ?_
  refine q_lstore (n := 31) dX8_tellsMiddle_29 rfl (Nat.le_of_ble_eq_true rfl) (q_s2_s (q_s2_s (q_s2_s (q_s2_1 rfl)))) ?_
  refine q_aload_n (n := 32) dX8_tellsMiddle_31 rfl rfl ?_
  refine q_iload_n (n := 33) dX8_tellsMiddle_32 rfl rfl ?_
  refine q_iconst (n := 34) dX8_tellsMiddle_33 rfl (k := ?_)
  refine q_v2D (n := 37) dX8_tellsMiddle_34 rfl (zX8_at _ _ σ _ (by omega) (by omega)) vX8_at lX8_101 rfl rfl mi0 rfl ?_
  refine q_aload_n (n := 38) dX8_tellsMiddle_37 rfl rfl ?_
  refine q_iload_n (n := 39) dX8_tellsMiddle_38 rfl rfl ?_
  refine q_iconst (n := 40) dX8_tellsMiddle_39 rfl (k := ?_)
  refine q_v2D (n := 43) dX8_tellsMiddle_40 rfl (zX8_at0 _ σ _ (by omega)) vX8_at lX8_101 rfl rfl mi0 rfl ?_
  have b10_ := bd_sub (C := 40) hg.2.2.2.2.1 hg.1 (by decide)
  refine q_isubS (n := 44) dX8_tellsMiddle_43 rfl (bd_32 b10_ (by decide)) ?_
  refine q_i2l (n := 45) dX8_tellsMiddle_44 rfl ?_
  refine q_lstore (n := 47) dX8_tellsMiddle_45 rfl (Nat.le_of_ble_eq_true rfl) (q_s2_s (q_s2_s (q_s2_s (q_s2_s (q_s2_s (q_s2_1 rfl)))))) ?_
  refine q_aload_n (n := 48) dX8_tellsMiddle_47 rfl rfl ?_
  refine q_iload_n (n := 49) dX8_tellsMiddle_48 rfl rfl ?_
  refine q_iconst (n := 50) dX8_tellsMiddle_49 rfl (k := ?_)
  refine q_v2D (n := 53) dX8_tellsMiddle_50 rfl (zX8_at _ _ σ _ (by omega) (by omega)) vX8_at lX8_101 rfl rfl mi0 rfl ?_
  refine q_aload_n (n := 54) dX8_tellsMiddle_53 rfl rfl ?_
  refine q_iload_n (n := 55) dX8_tellsMiddle_54 rfl rfl ?_
  refine q_iconst (n := 56) dX8_tellsMiddle_55 rfl (k := ?_)
  refine q_v2D (n := 59) dX8_tellsMiddle_56 rfl (zX8_at _ _ σ _ (by omega) (by omega)) vX8_at lX8_101 rfl rfl mi0 rfl ?_
  have b11_ := bd_sub (C := 40) hg.2.2.2.2.2 hg.2.1 (by decide)
  refine q_isubS (n := 60) dX8_tellsMiddle_59 rfl (bd_32 b11_ (by decide)) ?_
  refine q_i2l (n := 61) dX8_tellsMiddle_60 rfl ?_
  refine q_lstore (n := 63) dX8_tellsMiddle_61 rfl (Nat.le_of_ble_eq_true rfl) (q_s2_s (q_s2_s (q_s2_s (q_s2_s (q_s2_s (q_s2_s (q_s2_s (q_s2_1 rfl)))))))) ?_
  refine q_lload_n (n := 64) dX8_tellsMiddle_63 rfl rfl ?_
  refine q_lload_n (n := 65) dX8_tellsMiddle_64 rfl rfl ?_
  have b12_ := bd_mul (C := 1600) b8_ b8_ (by decide)
  refine q_lmulS (n := 66) dX8_tellsMiddle_65 rfl (bd_64 b12_ (by decide)) ?_
  refine q_lload (n := 68) dX8_tellsMiddle_66 rfl rfl ?_
  refine q_lload (n := 70) dX8_tellsMiddle_68 rfl rfl ?_
  have b13_ := bd_mul (C := 1600) b9_ b9_ (by decide)
  refine q_lmulS (n := 71) dX8_tellsMiddle_70 rfl (bd_64 b13_ (by decide)) ?_
  have b14_ := bd_add (C := 3200) b12_ b13_ (by decide)
  refine q_laddS (n := 72) dX8_tellsMiddle_71 rfl (bd_64 b14_ (by decide)) ?_
  refine q_lstore (n := 74) dX8_tellsMiddle_72 rfl (Nat.le_of_ble_eq_true rfl) (q_s2_s (q_s2_s (q_s2_s (q_s2_s (q_s2_s (q_s2_s (q_s2_s (q_s2_s (q_s2_s (q_s2_1 rfl)))))))))) ?_
  refine q_lload (n := 76) dX8_tellsMiddle_74 rfl rfl ?_
  refine q_lload (n := 78) dX8_tellsMiddle_76 rfl rfl ?_
  have b15_ := bd_mul (C := 1600) b10_ b10_ (by decide)
  refine q_lmulS (n := 79) dX8_tellsMiddle_78 rfl (bd_64 b15_ (by decide)) ?_
  refine q_lload (n := 81) dX8_tellsMiddle_79 rfl rfl ?_
  refine q_lload (n := 83) dX8_tellsMiddle_81 rfl rfl ?_
  have b16_ := bd_mul (C := 1600) b11_ b11_ (by decide)
  refine q_lmulS (n := 84) dX8_tellsMiddle_83 rfl (bd_64 b16_ (by decide)) ?_
  have b17_ := bd_add (C := 3200) b15_ b16_ (by decide)
  refine q_laddS (n := 85) dX8_tellsMiddle_84 rfl (bd_64 b17_ (by decide)) ?_
  refine q_lstore (n := 87) dX8_tellsMiddle_85 rfl (Nat.le_of_ble_eq_true rfl) (q_s2_s (q_s2_s (q_s2_s (q_s2_s (q_s2_s (q_s2_s (q_s2_s (q_s2_s (q_s2_s (q_s2_s (q_s2_s (q_s2_1 rfl)))))))))))) ?_
  refine q_aload_n (n := 88) dX8_tellsMiddle_87 rfl rfl ?_
  refine q_iload_n (n := 89) dX8_tellsMiddle_88 rfl rfl ?_
  refine q_v1D (n := 92) dX8_tellsMiddle_89 rfl (zX8_turnOf _ σ _ hI (by omega)) vX8_turnOf lX8_109 rfl rfl mi0 rfl ?_
  refine q_i2l (n := 93) dX8_tellsMiddle_92 rfl ?_
  refine q_lstore (n := 95) dX8_tellsMiddle_93 rfl (Nat.le_of_ble_eq_true rfl) (q_s2_s (q_s2_s (q_s2_s (q_s2_s (q_s2_s (q_s2_s (q_s2_s (q_s2_s (q_s2_s (q_s2_s (q_s2_s (q_s2_s (q_s2_s (q_s2_1 rfl)))))))))))))) ?_
  refine q_aload_n (n := 96) dX8_tellsMiddle_95 rfl rfl ?_
  refine q_lload (n := 98) dX8_tellsMiddle_96 rfl rfl ?_
  refine q_ldc2 (x := 2) (n := 101) dX8_tellsMiddle_98 rfl kX8_113 (k := ?_)
  have b18_ := bd_mul (C := 2) (sgn_bd (lB (pM (σ 1) 2) (6 * t))) (bd_c 2 (2) (by decide)) (by decide)
  refine q_lmulS (n := 102) dX8_tellsMiddle_101 rfl (bd_64 b18_ (by decide)) ?_
  refine q_aload_n (n := 103) dX8_tellsMiddle_102 rfl rfl ?_
  refine q_iload_n (n := 104) dX8_tellsMiddle_103 rfl rfl ?_
  refine q_v1D (n := 107) dX8_tellsMiddle_104 rfl (zX8_bendOf _ σ _ hI (by omega)) vX8_bendOf lX8_105 rfl rfl mi0 rfl ?_
  have b19_ := bd_mul (C := 6400) b18_ (lB_bd hg) (by decide)
  refine q_lmulS (n := 108) dX8_tellsMiddle_107 rfl (bd_64 b19_ (by decide)) ?_
  refine q_putJ (kI := 12) (n := 111) dX8_tellsMiddle_108 rfl pX8_115 mi0 rfl rfl ?_
  rw [om_up rfl]
  refine q_aload_n (n := 112) dX8_tellsMiddle_111 rfl rfl ?_
  refine q_lload (n := 114) dX8_tellsMiddle_112 rfl rfl ?_
  refine q_lload (n := 116) dX8_tellsMiddle_114 rfl rfl ?_
  refine q_lload (n := 118) dX8_tellsMiddle_116 rfl rfl ?_
  have b20_ := bd_mul (C := 128000) b11_ b14_ (by decide)
  refine q_lmulS (n := 119) dX8_tellsMiddle_118 rfl (bd_64 b20_ (by decide)) ?_
  refine q_lload (n := 121) dX8_tellsMiddle_119 rfl rfl ?_
  refine q_lload (n := 123) dX8_tellsMiddle_121 rfl rfl ?_
  have b21_ := bd_mul (C := 128000) b9_ b17_ (by decide)
  refine q_lmulS (n := 124) dX8_tellsMiddle_123 rfl (bd_64 b21_ (by decide)) ?_
  have b22_ := bd_sub (C := 256000) b20_ b21_ (by decide)
  refine q_lsubS (n := 125) dX8_tellsMiddle_124 rfl (bd_64 b22_ (by decide)) ?_
  have b23_ := bd_mul (C := 256000) (sgn_bd (lB (pM (σ 1) 2) (6 * t))) b22_ (by decide)
  refine q_lmulS (n := 126) dX8_tellsMiddle_125 rfl (bd_64 b23_ (by decide)) ?_
  refine q_putJ (kI := 10) (n := 129) dX8_tellsMiddle_126 rfl pX8_119 mi0 rfl rfl ?_
  rw [om_up rfl]
  refine q_aload_n (n := 130) dX8_tellsMiddle_129 rfl rfl ?_
  refine q_lload (n := 132) dX8_tellsMiddle_130 rfl rfl ?_
  refine q_lload_n (n := 133) dX8_tellsMiddle_132 rfl rfl ?_
  refine q_lload (n := 135) dX8_tellsMiddle_133 rfl rfl ?_
  have b24_ := bd_mul (C := 128000) b8_ b17_ (by decide)
  refine q_lmulS (n := 136) dX8_tellsMiddle_135 rfl (bd_64 b24_ (by decide)) ?_
  refine q_lload (n := 138) dX8_tellsMiddle_136 rfl rfl ?_
  refine q_lload (n := 140) dX8_tellsMiddle_138 rfl rfl ?_
  have b25_ := bd_mul (C := 128000) b10_ b14_ (by decide)
  refine q_lmulS (n := 141) dX8_tellsMiddle_140 rfl (bd_64 b25_ (by decide)) ?_
  have b26_ := bd_sub (C := 256000) b24_ b25_ (by decide)
  refine q_lsubS (n := 142) dX8_tellsMiddle_141 rfl (bd_64 b26_ (by decide)) ?_
  have b27_ := bd_mul (C := 256000) (sgn_bd (lB (pM (σ 1) 2) (6 * t))) b26_ (by decide)
  refine q_lmulS (n := 143) dX8_tellsMiddle_142 rfl (bd_64 b27_ (by decide)) ?_
  refine q_putJ (kI := 11) (n := 146) dX8_tellsMiddle_143 rfl pX8_122 mi0 rfl rfl ?_
  rw [om_up rfl]
  refine q_vret dX8_tellsMiddle_146 rfl ?_
  refine ⟨rfl, _, rfl, ⟨?_, ?_, ?_⟩, fun c x hc => ?_⟩
  · rw [q_up_n (by decide), q_up_n (by decide), q_up_s]
    exact un_m
  · rw [q_up_n (by decide), q_up_s]
    rfl
  · rw [q_up_s]
    rfl
  · rw [q_up_n (by omega), q_up_n (by omega), q_up_n (by omega)]
theorem mXd_bd {f : Int → Int} {k : Int} (h : lG f k) : q_bd (mXd f k) 256000 := by
  obtain ⟨h0, h1, h2, h3, h4, h5⟩ := h
  have c0 := bd_sub h2 h0 (C := 40) (by decide)
  have c1 := bd_sub h3 h1 (C := 40) (by decide)
  have c2 := bd_sub h4 h0 (C := 40) (by decide)
  have c3 := bd_sub h5 h1 (C := 40) (by decide)
  exact bd_sub (bd_mul c3 (lS_bd c0 c1) (C := 128000) (by decide)) (bd_mul c1 (lS_bd c2 c3) (C := 128000) (by decide)) (by decide)
theorem mYd_bd {f : Int → Int} {k : Int} (h : lG f k) : q_bd (mYd f k) 256000 := by
  obtain ⟨h0, h1, h2, h3, h4, h5⟩ := h
  have c0 := bd_sub h2 h0 (C := 40) (by decide)
  have c1 := bd_sub h3 h1 (C := 40) (by decide)
  have c2 := bd_sub h4 h0 (C := 40) (by decide)
  have c3 := bd_sub h5 h1 (C := 40) (by decide)
  exact bd_sub (bd_mul c0 (lS_bd c2 c3) (C := 128000) (by decide)) (bd_mul c2 (lS_bd c0 c1) (C := 128000) (by decide)) (by decide)
theorem un_bd0 {f : Int → Int} {t : Int} (h : lG f (6 * t)) : q_bd (un f t) 6400 := by
  have := lB_bd h
  unfold q_bd un at *
  split <;> omega
set_option maxRecDepth 100000 in
theorem zX8_isOn (t x y : Int) (σ s : q_S) (hI : IM σ) (ht : 0 ≤ t ∧ t < σ 1 1) (hx : q_bd x 20) (hy : q_bd y 20) : q_Ct mX8_isOn shM [.inr (.inr 0), .inl t, .inl x, .inl y] (ovM σ s) (fun r σ' => ∃ z, r = some z ∧ (z = .inl (if onb (pM (σ 1) 2) t x y = true then 1 else 0) ∧ ∃ s', σ' = ovM σ s' ∧ ∀ c x : Int, ¬ (c = 0 ∧ 10 ≤ x ∧ x ≤ 14) → s' c x = s c x)) := by
  refine q_ct 4 (by decide) rfl rfl ?_
  show q_WP mX8_isOn shM 0 [some (.inr (.inr 0)), some (.inl t), some (.inl x), some (.inl y), none, none, none, none] [] (ovM σ s) _
  have hg := hI.pt ht
  have hn := hI.nt
  have ht8 : 0 ≤ t ∧ t < 8 := by omega
  refine q_iload_n (n := 1) dX8_isOn_0 rfl rfl ?_
  refine q_aload_n (n := 2) dX8_isOn_1 rfl rfl ?_
  refine q_iload_n (n := 3) dX8_isOn_2 rfl rfl ?_
  refine q_iconst (n := 4) dX8_isOn_3 rfl (k := ?_)
  refine q_v2D (n := 7) dX8_isOn_4 rfl (zX8_at0 _ σ _ (by omega)) vX8_at lX8_101 rfl rfl mi0 rfl ?_
  have b28_ := bd_sub (C := 40) hx hg.1 (by decide)
  refine q_isubS (n := 8) dX8_isOn_7 rfl (bd_32 b28_ (by decide)) ?_
  refine q_i2l (n := 9) dX8_isOn_8 rfl ?_
  refine q_lstore (n := 11) dX8_isOn_9 rfl (Nat.le_of_ble_eq_true rfl) (q_s2_s (q_s2_s (q_s2_s (q_s2_1 rfl)))) ?_
  refine q_iload_n (n := 12) dX8_isOn_11 rfl rfl ?_
  refine q_aload_n (n := 13) dX8_isOn_12 rfl rfl ?_
  refine q_iload_n (n := 14) dX8_isOn_13 rfl rfl ?_
  refine q_iconst (n := 15) dX8_isOn_14 rfl (k := ?_)
  refine q_v2D (n := 18) dX8_isOn_15 rfl (zX8_at _ _ σ _ (by omega) (by omega)) vX8_at lX8_101 rfl rfl mi0 rfl ?_
  have b29_ := bd_sub (C := 40) hy hg.2.1 (by decide)
  refine q_isubS (n := 19) dX8_isOn_18 rfl (bd_32 b29_ (by decide)) ?_
  refine q_i2l (n := 20) dX8_isOn_19 rfl ?_
  refine q_lstore (n := 22) dX8_isOn_20 rfl (Nat.le_of_ble_eq_true rfl) (q_s2_s (q_s2_s (q_s2_s (q_s2_s (q_s2_s (q_s2_1 rfl)))))) ?_
  refine q_aload_n (n := 23) dX8_isOn_22 rfl rfl ?_
  refine q_iload_n (n := 24) dX8_isOn_23 rfl rfl ?_
  refine q_v1D (n := 27) dX8_isOn_24 rfl (zX8_turnOf _ σ _ hI (by omega)) vX8_turnOf lX8_109 rfl rfl mi0 rfl ?_
  refine q_if_ne (n := 30) (t := 74) dX8_isOn_27 rfl (by decide) (fun h27 => ?_) (fun h27 => ?_)
  · have hB : lB (pM (σ 1) 2) (6 * t) ≠ 0 := by
      intro z
      rw [z] at h27
      exact h27 rfl
    have hon := isOn_c (x := x) (y := y) hB
    refine q_aload_n (n := 75) dX8_isOn_74 rfl rfl ?_
    refine q_iload_n (n := 76) dX8_isOn_75 rfl rfl ?_
    refine q_v1W (n := 79) dX8_isOn_76 rfl (zX8_tellsMiddle t σ _ hI ht) vX8_tellsMiddle lX8_125 rfl rfl mi0 rfl (fun σ76 h76 => ?_)
    obtain ⟨s2, rfl, hmid, hfr⟩ := h76
    · skip
      refine q_aload_n (n := 80) dX8_isOn_79 rfl rfl ?_
      refine q_getJE (un (pM (σ 1) 2) t) (kI := 12) (n := 83) dX8_isOn_80 rfl fX8_115 mi0 rfl rfl hmid.1 ?_
      have b30_ := un_bd0 hg
      refine q_lload (n := 85) dX8_isOn_83 rfl rfl ?_
      refine q_lload (n := 87) dX8_isOn_85 rfl rfl ?_
      have b31_ := bd_mul (C := 1600) b28_ b28_ (by decide)
      refine q_lmulS (n := 88) dX8_isOn_87 rfl (bd_64 b31_ (by decide)) ?_
      refine q_lload (n := 90) dX8_isOn_88 rfl rfl ?_
      refine q_lload (n := 92) dX8_isOn_90 rfl rfl ?_
      have b32_ := bd_mul (C := 1600) b29_ b29_ (by decide)
      refine q_lmulS (n := 93) dX8_isOn_92 rfl (bd_64 b32_ (by decide)) ?_
      have b33_ := bd_add (C := 3200) b31_ b32_ (by decide)
      refine q_laddS (n := 94) dX8_isOn_93 rfl (bd_64 b33_ (by decide)) ?_
      have b34_ := bd_mul (C := 20480000) b30_ b33_ (by decide)
      refine q_lmulS (n := 95) dX8_isOn_94 rfl (bd_64 b34_ (by decide)) ?_
      refine q_ldc2 (x := 2) (n := 98) dX8_isOn_95 rfl kX8_113 (k := ?_)
      refine q_lload (n := 100) dX8_isOn_98 rfl rfl ?_
      refine q_aload_n (n := 101) dX8_isOn_100 rfl rfl ?_
      refine q_getJE (sgn (lB (pM (σ 1) 2) (6 * t)) * mXd (pM (σ 1) 2) (6 * t)) (kI := 10) (n := 104) dX8_isOn_101 rfl fX8_119 mi0 rfl rfl hmid.2.1 ?_
      have b35_ := (bd_mul (sgn_bd (lB (pM (σ 1) 2) (6 * t))) (mXd_bd hg) (C := 256000) (by decide))
      have b36_ := bd_mul (C := 10240000) b28_ b35_ (by decide)
      refine q_lmulS (n := 105) dX8_isOn_104 rfl (bd_64 b36_ (by decide)) ?_
      refine q_lload (n := 107) dX8_isOn_105 rfl rfl ?_
      refine q_aload_n (n := 108) dX8_isOn_107 rfl rfl ?_
      refine q_getJE (sgn (lB (pM (σ 1) 2) (6 * t)) * mYd (pM (σ 1) 2) (6 * t)) (kI := 11) (n := 111) dX8_isOn_108 rfl fX8_122 mi0 rfl rfl hmid.2.2 ?_
      have b37_ := (bd_mul (sgn_bd (lB (pM (σ 1) 2) (6 * t))) (mYd_bd hg) (C := 256000) (by decide))
      have b38_ := bd_mul (C := 10240000) b29_ b37_ (by decide)
      refine q_lmulS (n := 112) dX8_isOn_111 rfl (bd_64 b38_ (by decide)) ?_
      have b39_ := bd_add (C := 20480000) b36_ b38_ (by decide)
      refine q_laddS (n := 113) dX8_isOn_112 rfl (bd_64 b39_ (by decide)) ?_
      have b40_ := bd_mul (C := 40960000) (bd_c 2 (2) (by decide)) b39_ (by decide)
      refine q_lmulS (n := 114) dX8_isOn_113 rfl (bd_64 b40_ (by decide)) ?_
      refine q_lcmp (n := 115) dX8_isOn_114 rfl ?_
      refine q_if_ne (n := 118) (t := 122) dX8_isOn_115 rfl (by decide) (fun h115 => ?_) (fun h115 => ?_)
      · have h115 := q_knet.mp h115
        refine q_iconst (n := 123) dX8_isOn_122 rfl (k := ?_)
        refine q_iret dX8_isOn_123 rfl (fun _ => rfl) ?_
        refine ⟨_, rfl, congrArg Sum.inl (Eq.symm ?_), ?_⟩
        · first
            | exact if_pos (hon.mp (by assumption))
            | exact if_neg (fun z => absurd (hon.mpr z) (by assumption))
        · first
            | exact ⟨_, rfl, hfr⟩
            | exact ⟨s, rfl, fun _ _ _ => rfl⟩
      · have h115 := q_knef.mp h115
        refine q_iconst (n := 119) dX8_isOn_118 rfl (k := ?_)
        refine q_go (t := 123) dX8_isOn_119 (by decide) ?_
        refine q_iret dX8_isOn_123 rfl (fun _ => rfl) ?_
        refine ⟨_, rfl, congrArg Sum.inl (Eq.symm ?_), ?_⟩
        · first
            | exact if_pos (hon.mp (by assumption))
            | exact if_neg (fun z => absurd (hon.mpr z) (by assumption))
        · first
            | exact ⟨_, rfl, hfr⟩
            | exact ⟨s, rfl, fun _ _ _ => rfl⟩
  · have hB : lB (pM (σ 1) 2) (6 * t) = 0 := by
      unfold sgn at h27
      split at h27
      · omega
      · split at h27 <;> omega
    have hon := isOn_s (x := x) (y := y) hB (hI.un ht)
    refine q_aload_n (n := 31) dX8_isOn_30 rfl rfl ?_
    refine q_iload_n (n := 32) dX8_isOn_31 rfl rfl ?_
    refine q_iconst (n := 33) dX8_isOn_32 rfl (k := ?_)
    refine q_v2D (n := 36) dX8_isOn_33 rfl (zX8_at _ _ σ _ (by omega) (by omega)) vX8_at lX8_101 rfl rfl mi0 rfl ?_
    refine q_aload_n (n := 37) dX8_isOn_36 rfl rfl ?_
    refine q_iload_n (n := 38) dX8_isOn_37 rfl rfl ?_
    refine q_iconst (n := 39) dX8_isOn_38 rfl (k := ?_)
    refine q_v2D (n := 42) dX8_isOn_39 rfl (zX8_at0 _ σ _ (by omega)) vX8_at lX8_101 rfl rfl mi0 rfl ?_
    have b41_ := bd_sub (C := 40) hg.2.2.1 hg.1 (by decide)
    refine q_isubS (n := 43) dX8_isOn_42 rfl (bd_32 b41_ (by decide)) ?_
    refine q_i2l (n := 44) dX8_isOn_43 rfl ?_
    refine q_lload (n := 46) dX8_isOn_44 rfl rfl ?_
    have b42_ := bd_mul (C := 1600) b41_ b29_ (by decide)
    refine q_lmulS (n := 47) dX8_isOn_46 rfl (bd_64 b42_ (by decide)) ?_
    refine q_aload_n (n := 48) dX8_isOn_47 rfl rfl ?_
    refine q_iload_n (n := 49) dX8_isOn_48 rfl rfl ?_
    refine q_iconst (n := 50) dX8_isOn_49 rfl (k := ?_)
    refine q_v2D (n := 53) dX8_isOn_50 rfl (zX8_at _ _ σ _ (by omega) (by omega)) vX8_at lX8_101 rfl rfl mi0 rfl ?_
    refine q_aload_n (n := 54) dX8_isOn_53 rfl rfl ?_
    refine q_iload_n (n := 55) dX8_isOn_54 rfl rfl ?_
    refine q_iconst (n := 56) dX8_isOn_55 rfl (k := ?_)
    refine q_v2D (n := 59) dX8_isOn_56 rfl (zX8_at _ _ σ _ (by omega) (by omega)) vX8_at lX8_101 rfl rfl mi0 rfl ?_
    have b43_ := bd_sub (C := 40) hg.2.2.2.1 hg.2.1 (by decide)
    refine q_isubS (n := 60) dX8_isOn_59 rfl (bd_32 b43_ (by decide)) ?_
    refine q_i2l (n := 61) dX8_isOn_60 rfl ?_
    refine q_lload (n := 63) dX8_isOn_61 rfl rfl ?_
    have b44_ := bd_mul (C := 1600) b43_ b28_ (by decide)
    refine q_lmulS (n := 64) dX8_isOn_63 rfl (bd_64 b44_ (by decide)) ?_
    refine q_lcmp (n := 65) dX8_isOn_64 rfl ?_
    refine q_if_ne (n := 68) (t := 72) dX8_isOn_65 rfl (by decide) (fun h65 => ?_) (fun h65 => ?_)
    · have h65 := q_knet.mp h65
      refine q_iconst (n := 73) dX8_isOn_72 rfl (k := ?_)
      refine q_iret dX8_isOn_73 rfl (fun _ => rfl) ?_
      refine ⟨_, rfl, congrArg Sum.inl (Eq.symm ?_), ?_⟩
      · first
          | exact if_pos (hon.mp (by assumption))
          | exact if_neg (fun z => absurd (hon.mpr z) (by assumption))
      · first
          | exact ⟨_, rfl, hfr⟩
          | exact ⟨s, rfl, fun _ _ _ => rfl⟩
    · have h65 := q_knef.mp h65
      refine q_iconst (n := 69) dX8_isOn_68 rfl (k := ?_)
      refine q_go (t := 73) dX8_isOn_69 (by decide) ?_
      refine q_iret dX8_isOn_73 rfl (fun _ => rfl) ?_
      refine ⟨_, rfl, congrArg Sum.inl (Eq.symm ?_), ?_⟩
      · first
          | exact if_pos (hon.mp (by assumption))
          | exact if_neg (fun z => absurd (hon.mpr z) (by assumption))
      · first
          | exact ⟨_, rfl, hfr⟩
          | exact ⟨s, rfl, fun _ _ _ => rfl⟩
def pshM (s : q_S) (f : Int → Int) (F x y t : Int) : Prop := s 0 13 = pX f F y t ∧ s 0 14 = pY f F x t ∧ s 0 12 = un f t
set_option maxRecDepth 100000 in
theorem zX8_tellsPush (t x y : Int) (σ s : q_S) (hI : IM σ) (ht : 0 ≤ t ∧ t < σ 1 1) (hB : lB (pM (σ 1) 2) (6 * t) ≠ 0) (hx : q_bd x 20) (hy : q_bd y 20) : q_Ct mX8_tellsPush shM [.inr (.inr 0), .inl t, .inl x, .inl y] (ovM σ s) (fun r σ' => r = none ∧ (∃ s', σ' = ovM σ s' ∧ pshM s' (pM (σ 1) 2) (σ 1 0) x y t ∧ ∀ c x : Int, ¬ (c = 0 ∧ 10 ≤ x ∧ x ≤ 14) → s' c x = s c x)) := by
  refine q_ct 2 (by decide) rfl rfl ?_
  show q_WP mX8_tellsPush shM 0 [some (.inr (.inr 0)), some (.inl t), some (.inl x), some (.inl y), none, none] [] (ovM σ s) _
  have hg := hI.pt ht
  have hn := hI.nt
  have ht8 : 0 ≤ t ∧ t < 8 := by omega
  have hq := hI.fq
  refine q_aload_n (n := 1) dX8_tellsPush_0 rfl rfl ?_
  refine q_iload_n (n := 2) dX8_tellsPush_1 rfl rfl ?_
  refine q_v1W (n := 5) dX8_tellsPush_2 rfl (zX8_tellsMiddle t σ _ hI ht) vX8_tellsMiddle lX8_125 rfl rfl mi0 rfl (fun σ2 h2 => ?_)
  obtain ⟨s2, rfl, hmid, hfr⟩ := h2
  · skip
    refine q_aload_n (n := 6) dX8_tellsPush_5 rfl rfl ?_
    refine q_getR (n := 9) dX8_tellsPush_6 rfl fX8_23 mi0 rfl ?_
    refine q_iconst (n := 10) dX8_tellsPush_9 rfl (k := ?_)
    refine q_ialoadF (σ 1) (n := 11) dX8_tellsPush_10 rfl mi1 ⟨by omega, by omega⟩ rfl ?_
    have b45_ := hq
    refine q_i2l (n := 12) dX8_tellsPush_11 rfl ?_
    refine q_aload_n (n := 13) dX8_tellsPush_12 rfl rfl ?_
    refine q_iload_n (n := 14) dX8_tellsPush_13 rfl rfl ?_
    refine q_v1D (n := 17) dX8_tellsPush_14 rfl (zX8_turnOf _ σ _ hI (by omega)) vX8_turnOf lX8_109 rfl rfl mi0 rfl ?_
    refine q_i2l (n := 18) dX8_tellsPush_17 rfl ?_
    have b46_ := bd_mul (C := 9) b45_ (sgn_bd (lB (pM (σ 1) 2) (6 * t))) (by decide)
    refine q_lmulS (n := 19) dX8_tellsPush_18 rfl (bd_64 b46_ (by decide)) ?_
    refine q_lstore (n := 21) dX8_tellsPush_19 rfl (Nat.le_of_ble_eq_true rfl) (q_s2_s (q_s2_s (q_s2_s (q_s2_1 rfl)))) ?_
    refine q_aload_n (n := 22) dX8_tellsPush_21 rfl rfl ?_
    refine q_lload (n := 24) dX8_tellsPush_22 rfl rfl ?_
    refine q_aload_n (n := 25) dX8_tellsPush_24 rfl rfl ?_
    refine q_getJE (sgn (lB (pM (σ 1) 2) (6 * t)) * mYd (pM (σ 1) 2) (6 * t)) (kI := 11) (n := 28) dX8_tellsPush_25 rfl fX8_122 mi0 rfl rfl hmid.2.2 ?_
    have b47_ := (bd_mul (sgn_bd (lB (pM (σ 1) 2) (6 * t))) (mYd_bd hg) (C := 256000) (by decide))
    refine q_iload_n (n := 29) dX8_tellsPush_28 rfl rfl ?_
    refine q_aload_n (n := 30) dX8_tellsPush_29 rfl rfl ?_
    refine q_iload_n (n := 31) dX8_tellsPush_30 rfl rfl ?_
    refine q_iconst (n := 32) dX8_tellsPush_31 rfl (k := ?_)
    refine q_v2D (n := 35) dX8_tellsPush_32 rfl (zX8_at _ _ σ _ (by omega) (by omega)) vX8_at lX8_101 rfl rfl mi0 rfl ?_
    have b48_ := bd_sub (C := 40) hy hg.2.1 (by decide)
    refine q_isubS (n := 36) dX8_tellsPush_35 rfl (bd_32 b48_ (by decide)) ?_
    refine q_i2l (n := 37) dX8_tellsPush_36 rfl ?_
    refine q_aload_n (n := 38) dX8_tellsPush_37 rfl rfl ?_
    refine q_getJE (un (pM (σ 1) 2) t) (kI := 12) (n := 41) dX8_tellsPush_38 rfl fX8_115 mi0 rfl rfl hmid.1 ?_
    have b49_ := un_bd0 hg
    have b50_ := bd_mul (C := 256000) b48_ b49_ (by decide)
    refine q_lmulS (n := 42) dX8_tellsPush_41 rfl (bd_64 b50_ (by decide)) ?_
    have b51_ := bd_sub (C := 512000) b47_ b50_ (by decide)
    refine q_lsubS (n := 43) dX8_tellsPush_42 rfl (bd_64 b51_ (by decide)) ?_
    have b52_ := bd_mul (C := 4608000) b46_ b51_ (by decide)
    refine q_lmulS (n := 44) dX8_tellsPush_43 rfl (bd_64 b52_ (by decide)) ?_
    refine q_putJ (kI := 13) (n := 47) dX8_tellsPush_44 rfl pX8_129 mi0 rfl rfl ?_
    rw [om_up rfl]
    refine q_aload_n (n := 48) dX8_tellsPush_47 rfl rfl ?_
    refine q_lload (n := 50) dX8_tellsPush_48 rfl rfl ?_
    refine q_iload_n (n := 51) dX8_tellsPush_50 rfl rfl ?_
    refine q_aload_n (n := 52) dX8_tellsPush_51 rfl rfl ?_
    refine q_iload_n (n := 53) dX8_tellsPush_52 rfl rfl ?_
    refine q_iconst (n := 54) dX8_tellsPush_53 rfl (k := ?_)
    refine q_v2D (n := 57) dX8_tellsPush_54 rfl (zX8_at0 _ σ _ (by omega)) vX8_at lX8_101 rfl rfl mi0 rfl ?_
    have b53_ := bd_sub (C := 40) hx hg.1 (by decide)
    refine q_isubS (n := 58) dX8_tellsPush_57 rfl (bd_32 b53_ (by decide)) ?_
    refine q_i2l (n := 59) dX8_tellsPush_58 rfl ?_
    refine q_aload_n (n := 60) dX8_tellsPush_59 rfl rfl ?_
    refine q_getJE (un (pM (σ 1) 2) t) (kI := 12) (n := 63) dX8_tellsPush_60 rfl fX8_115 mi0 rfl rfl hmid.1 ?_
    have b54_ := un_bd0 hg
    have b55_ := bd_mul (C := 256000) b53_ b54_ (by decide)
    refine q_lmulS (n := 64) dX8_tellsPush_63 rfl (bd_64 b55_ (by decide)) ?_
    refine q_aload_n (n := 65) dX8_tellsPush_64 rfl rfl ?_
    refine q_getJE (sgn (lB (pM (σ 1) 2) (6 * t)) * mXd (pM (σ 1) 2) (6 * t)) (kI := 10) (n := 68) dX8_tellsPush_65 rfl fX8_119 mi0 rfl rfl hmid.2.1 ?_
    have b56_ := (bd_mul (sgn_bd (lB (pM (σ 1) 2) (6 * t))) (mXd_bd hg) (C := 256000) (by decide))
    have b57_ := bd_sub (C := 512000) b55_ b56_ (by decide)
    refine q_lsubS (n := 69) dX8_tellsPush_68 rfl (bd_64 b57_ (by decide)) ?_
    have b58_ := bd_mul (C := 4608000) b46_ b57_ (by decide)
    refine q_lmulS (n := 70) dX8_tellsPush_69 rfl (bd_64 b58_ (by decide)) ?_
    refine q_putJ (kI := 14) (n := 73) dX8_tellsPush_70 rfl pX8_132 mi0 rfl rfl ?_
    rw [om_up rfl]
    refine q_vret dX8_tellsPush_73 rfl ?_
    refine ⟨rfl, _, rfl, ⟨?_, ?_, ?_⟩, fun c x hc => ?_⟩
    · rw [q_up_n (by decide), q_up_s]
      exact pX_m hB
    · rw [q_up_s]
      exact pY_m hB
    · rw [q_up_n (by decide), q_up_n (by decide)]
      exact hmid.1
    · rw [q_up_n (by omega), q_up_n (by omega)]
      exact hfr c x hc
