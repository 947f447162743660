set_option maxRecDepth 100000 in
theorem zX8_feed (x : Int) (σ s : q_S) (hI : IM σ) : q_Ct mX8_feed shM [.inr (.inr 0), .inl x] (ovM σ s) (fun r σ' => ∃ z, r = some z ∧ ((¬ (1 ≤ x ∧ x ≤ 127) ∧ z = .inl (-1) ∧ σ' = ovM σ s) ∨ ((1 ≤ x ∧ x ≤ 127) ∧ σ 0 28 = 120 ∧ z = .inl (-3) ∧ σ' = ovM σ s) ∨ ((1 ≤ x ∧ x ≤ 127) ∧ σ 0 28 < 120 ∧ z = .inl (σ 0 28 + 1) ∧ σ' = ovM (q_up (q_up σ 14 (σ 0 28) x) 0 28 (σ 0 28 + 1)) s))) := by
  refine q_ct 0 (by decide) rfl rfl ?_
  show q_WP mX8_feed shM 0 [some (.inr (.inr 0)), some (.inl x)] [] (ovM σ s) _
  have hl := hI.2.2.2.2.1
  refine q_iload_n (n := 1) dX8_feed_0 rfl rfl ?_
  refine q_i2l (n := 2) dX8_feed_1 rfl ?_
  refine q_lconst (x := 1) (n := 3) dX8_feed_2 rfl (k := ?_)
  refine q_ldc2 (x := 127) (n := 6) dX8_feed_3 rfl kX8_319 (k := ?_)
  refine q_c3D (n := 9) dX8_feed_6 rfl (zX8_in _ _ _ _ _) vX8_in lX8_13 rfl rfl ?_
  refine q_if_ne (n := 12) (t := 14) dX8_feed_9 rfl (by decide) (fun h9 => ?_) (fun h9 => ?_)
  · have h9 := q_b1.mp h9
    refine q_aload_n (n := 15) dX8_feed_14 rfl rfl ?_
    refine q_getIF (σ 0) (kI := 28) (n := 18) (by decide) dX8_feed_15 rfl fX8_201 mi0 rfl rfl rfl ?_
    refine q_bipush (n := 20) dX8_feed_18 rfl (k := ?_)
    refine q_icmp_ne (n := 23) (t := 26) dX8_feed_20 rfl (by decide) (fun h20 => ?_) (fun h20 => ?_)
    · skip
      refine q_aload_n (n := 27) dX8_feed_26 rfl rfl ?_
      refine q_getR (n := 30) dX8_feed_27 rfl fX8_63 mi0 rfl ?_
      refine q_aload_n (n := 31) dX8_feed_30 rfl rfl ?_
      refine q_getIF (σ 0) (kI := 28) (n := 34) (by decide) dX8_feed_31 rfl fX8_201 mi0 rfl rfl rfl ?_
      refine q_iload_n (n := 35) dX8_feed_34 rfl rfl ?_
      refine q_iastore (n := 36) dX8_feed_35 rfl mi14 ⟨by omega, by omega⟩ ?_
      rw [om_upn rfl]
      refine q_aload_n (n := 37) dX8_feed_36 rfl rfl ?_
      refine q_dup (n := 38) dX8_feed_37 rfl rfl ?_
      refine q_getIE (σ 0 28) (kI := 28) (n := 41) (by decide) dX8_feed_38 rfl fX8_201 mi0 rfl rfl (by rw [om_n rfl, q_up_n (by omega)]) ?_
      refine q_iconst (n := 42) dX8_feed_41 rfl (k := ?_)
      refine q_iaddS (n := 43) dX8_feed_42 rfl ⟨by omega, by omega⟩ ?_
      refine q_putI (kI := 28) (n := 46) dX8_feed_43 rfl pX8_201 mi0 rfl rfl ?_
      rw [om_upn rfl]
      refine q_aload_n (n := 47) dX8_feed_46 rfl rfl ?_
      refine q_getIE (σ 0 28 + 1) (kI := 28) (n := 50) (by decide) dX8_feed_47 rfl fX8_201 mi0 rfl rfl ((om_n rfl).trans q_up_s) ?_
      refine q_iret dX8_feed_50 rfl (fun _ => rfl) ?_
      exact ⟨_, rfl, Or.inr (Or.inr ⟨h9, by omega, rfl, rfl⟩)⟩
    · skip
      refine q_bipush (n := 25) dX8_feed_23 rfl (k := ?_)
      refine q_iret dX8_feed_25 rfl (fun _ => rfl) ?_
      exact ⟨_, rfl, Or.inr (Or.inl ⟨h9, h20, rfl, rfl⟩)⟩
  · have h9 := q_b0.mp h9
    refine q_iconst (n := 13) dX8_feed_12 rfl (k := ?_)
    refine q_iret dX8_feed_13 rfl (fun _ => rfl) ?_
    exact ⟨_, rfl, Or.inl ⟨h9, rfl, rfl⟩⟩
def prM (σ : q_S) (g : Int → Int) (m : Int) : q_S := q_up (q_row σ 17 g) 0 34 m
theorem prM_o {σ : q_S} {g : Int → Int} {m c : Int} (h : c ≠ 17 ∧ c ≠ 0) : prM σ g m c = σ c := by
  unfold prM
  rw [q_up_o h.2]
  exact q_row_o h.1
theorem prM_m {σ : q_S} {g : Int → Int} {m : Int} : prM σ g m 0 34 = m := q_up_s
theorem prM_put {σ : q_S} {g : Int → Int} {m c : Int} : q_up (q_up (prM σ g m) 17 m c) 0 34 (m + 1) = prM σ (ud g m c) (m + 1) := by
  funext c' x'
  unfold prM q_up q_row ud
  by_cases h : c' = 0
  · subst h
    by_cases h2 : x' = 34
    · simp [h2]
    · simp [h2]
  · by_cases h3 : c' = 17
    · subst h3
      by_cases h2 : x' = m <;> simp [h2]
    · simp [h, h3]
theorem prM_0 {σ : q_S} {m : Int} : q_up σ 0 34 m = prM σ (σ 17) m := by
  unfold prM
  rw [q_row_0]
set_option maxRecDepth 100000 in
theorem zX8_letterOf (t : Int) (σ s : q_S) (hl : ∀ k : Int, 0 ≤ k → k < 12 → σ 7 k = q_let.getD k.toNat 0) (ht : 0 ≤ t ∧ t < 8) (hk : -1 ≤ σ 1 (51 + t) ∧ σ 1 (51 + t) ≤ 11) : q_Ct mX8_letterOf shM [.inr (.inr 0), .inl t] (ovM σ s) (fun r σ' => r = some (.inl (ltr ((pM (σ 1) 3) t))) ∧ σ' = ovM σ s) := by
  refine q_ct 0 (by decide) rfl rfl ?_
  show q_WP mX8_letterOf shM 0 [some (.inr (.inr 0)), some (.inl t)] [] (ovM σ s) _
  refine q_aload_n (n := 1) dX8_letterOf_0 rfl rfl ?_
  refine q_iload_n (n := 2) dX8_letterOf_1 rfl rfl ?_
  refine q_v1D (n := 5) dX8_letterOf_2 rfl (zX8_kindOf _ σ _ (by omega)) vX8_kindOf lX8_164 rfl rfl mi0 rfl ?_
  refine q_if_ge (n := 8) (t := 13) dX8_letterOf_5 rfl (by decide) (fun h5 => ?_) (fun h5 => ?_)
  · skip
    refine q_aload_n (n := 14) dX8_letterOf_13 rfl rfl ?_
    refine q_getR (n := 17) dX8_letterOf_14 rfl fX8_42 mi0 rfl ?_
    refine q_aload_n (n := 18) dX8_letterOf_17 rfl rfl ?_
    refine q_iload_n (n := 19) dX8_letterOf_18 rfl rfl ?_
    refine q_v1D (n := 22) dX8_letterOf_19 rfl (zX8_kindOf _ σ _ (by omega)) vX8_kindOf lX8_164 rfl rfl mi0 rfl ?_
    refine q_ialoadF (σ 7) (n := 23) dX8_letterOf_22 rfl mi7 ⟨by omega, by omega⟩ rfl ?_
    refine q_iret dX8_letterOf_23 rfl (fun _ => rfl) ?_
    refine ⟨congrArg some (congrArg Sum.inl (Eq.symm ?_)), rfl⟩
    show ltr (if σ 1 (51 + t) = -1 then (12 : Int) else σ 1 (51 + t)) = _
    unfold ltr
    first
      | (rw [if_neg (by omega : ¬ σ 1 (51 + t) = -1), if_pos (by omega)]
         exact (hl _ (by omega) (by omega)).symm)
      | (rw [if_pos (by omega : σ 1 (51 + t) = -1)]
         exact if_neg (by decide))
  · skip
    refine q_bipush (n := 10) dX8_letterOf_8 rfl (k := ?_)
    refine q_go (t := 23) dX8_letterOf_10 (by decide) ?_
    refine q_iret dX8_letterOf_23 rfl (fun _ => rfl) ?_
    refine ⟨congrArg some (congrArg Sum.inl (Eq.symm ?_)), rfl⟩
    show ltr (if σ 1 (51 + t) = -1 then (12 : Int) else σ 1 (51 + t)) = _
    unfold ltr
    first
      | (rw [if_neg (by omega : ¬ σ 1 (51 + t) = -1), if_pos (by omega)]
         exact (hl _ (by omega) (by omega)).symm)
      | (rw [if_pos (by omega : σ 1 (51 + t) = -1)]
         exact if_neg (by decide))
set_option maxRecDepth 100000 in
theorem zX8_writes (c : Int) (σ s : q_S) (g : Int → Int) (m : Int) (hm : 0 ≤ m ∧ m < 6) : q_Ct mX8_writes shM [.inr (.inr 0), .inl c] (ovM (prM σ g m) s) (fun r σ' => r = none ∧ σ' = (ovM (prM σ (ud g m c) (m + 1)) s)) := by
  refine q_ct 0 (by decide) rfl rfl ?_
  show q_WP mX8_writes shM 0 [some (.inr (.inr 0)), some (.inl c)] [] (ovM (prM σ g m) s) _
  refine q_aload_n (n := 1) dX8_writes_0 rfl rfl ?_
  refine q_getR (n := 4) dX8_writes_1 rfl fX8_72 mi0 rfl ?_
  refine q_aload_n (n := 5) dX8_writes_4 rfl rfl ?_
  refine q_getIE (m) (kI := 34) (n := 8) (by decide) dX8_writes_5 rfl fX8_204 mi0 rfl rfl ((om_n rfl).trans prM_m) ?_
  refine q_iload_n (n := 9) dX8_writes_8 rfl rfl ?_
  refine q_iastore (n := 10) dX8_writes_9 rfl mi17 ⟨by omega, by omega⟩ ?_
  rw [om_upn rfl]
  refine q_aload_n (n := 11) dX8_writes_10 rfl rfl ?_
  refine q_dup (n := 12) dX8_writes_11 rfl rfl ?_
  refine q_getIE (m) (kI := 34) (n := 15) (by decide) dX8_writes_12 rfl fX8_204 mi0 rfl rfl (by rw [om_n rfl, q_up_n (by omega)]; exact prM_m) ?_
  refine q_iconst (n := 16) dX8_writes_15 rfl (k := ?_)
  refine q_iaddS (n := 17) dX8_writes_16 rfl ⟨by omega, by omega⟩ ?_
  refine q_putI (kI := 34) (n := 20) dX8_writes_17 rfl pX8_204 mi0 rfl rfl ?_
  rw [om_upn rfl, prM_put]
  refine q_vret dX8_writes_20 rfl ?_
  exact ⟨rfl, rfl⟩
set_option maxRecDepth 100000 in
theorem lpX8_pr (σ s : q_S) (v : Int) (hI : IM σ) (hv : 0 ≤ v ∧ v < σ 1 2) : ∀ (n : Nat) (i : Int) (a : (Int → Int) × Int), (n : Int) + i = σ 1 1 → 0 ≤ i → 0 ≤ a.2 → a.2 + nbL (pM (σ 1) 7 v) n i ≤ 6 → q_WP mX8_prints shM 52 [some (.inr (.inr 0)), some (.inl v), some (.inl i)] [] (ovM (prM σ a.1 a.2) s) (fun r σ' => r = some (.inl (prL (pM (σ 1) 3) (pM (σ 1) 7 v) n i a).2) ∧ σ' = (ovM (prM σ (prL (pM (σ 1) 3) (pM (σ 1) 7 v) n i a).1 (prL (pM (σ 1) 3) (pM (σ 1) 7 v) n i a).2) s)) := by
  have hn := hI.nt
  have hvv := hI.nv
  intro n
  induction n with
  | zero =>
    intro i a hi h0 ha hb
    refine q_iload_n (n := 53) dX8_prints_52 rfl rfl ?_
    refine q_aload_n (n := 54) dX8_prints_53 rfl rfl ?_
    refine q_getR (n := 57) dX8_prints_54 rfl fX8_23 mi0 rfl ?_
    refine q_iconst (n := 58) dX8_prints_57 rfl (k := ?_)
    refine q_ialoadE (σ 1 1) (n := 59) dX8_prints_58 rfl mi1 ⟨by omega, by omega⟩ (by rw [om_n rfl, prM_o (by decide)]) ?_
    refine q_icmp_ge (n := 62) (t := 90) dX8_prints_59 rfl (by decide) (fun h59 => ?_) (fun h59 => ?_)
    · skip
      refine q_aload_n (n := 91) dX8_prints_90 rfl rfl ?_
      refine q_getIE (a.2) (kI := 34) (n := 94) (by decide) dX8_prints_91 rfl fX8_204 mi0 rfl rfl ((om_n rfl).trans prM_m) ?_
      refine q_iret dX8_prints_94 rfl (fun _ => rfl) ?_
      exact ⟨rfl, rfl⟩
    · exact absurd h59 (by omega)
  | succ n ih =>
    intro i a hi h0 ha hb
    have hnb := nbL_0 (o := (pM (σ 1) 7 v)) n (i + 1)
    have e1 : pM (prM σ a.1 a.2 1) = pM (σ 1) := by rw [prM_o (by decide)]
    rw [nbL] at hb
    rw [prL]
    refine q_iload_n (n := 53) dX8_prints_52 rfl rfl ?_
    refine q_aload_n (n := 54) dX8_prints_53 rfl rfl ?_
    refine q_getR (n := 57) dX8_prints_54 rfl fX8_23 mi0 rfl ?_
    refine q_iconst (n := 58) dX8_prints_57 rfl (k := ?_)
    refine q_ialoadE (σ 1 1) (n := 59) dX8_prints_58 rfl mi1 ⟨by omega, by omega⟩ (by rw [om_n rfl, prM_o (by decide)]) ?_
    refine q_icmp_ge (n := 62) (t := 90) dX8_prints_59 rfl (by decide) (fun h59 => ?_) (fun h59 => ?_)
    · exact absurd h59 (by omega)
    · skip
      refine q_aload_n (n := 63) dX8_prints_62 rfl rfl ?_
      refine q_iload_n (n := 64) dX8_prints_63 rfl rfl ?_
      refine q_iconst (n := 65) dX8_prints_64 rfl (k := ?_)
      refine q_v2D (n := 68) dX8_prints_65 rfl (zX8_vP3 v (prM σ a.1 a.2) s ⟨by omega, by omega⟩) vX8_vertexAt lX8_185 rfl rfl mi0 rfl ?_
      refine q_iload_n (n := 69) dX8_prints_68 rfl rfl ?_
      refine q_c2D (n := 72) dX8_prints_69 rfl (zX8_has _ _ _ _) vX8_has lX8_170 rfl rfl ?_
      refine q_if_eq (n := 75) (t := 84) dX8_prints_72 rfl (by decide) (fun h72 => ?_) (fun h72 => ?_)
      · have h72 := q_b0.mp h72
        rw [e1] at h72
        rw [if_neg h72] at hb
        refine q_iinc (n := 87) dX8_prints_84 rfl (Nat.le_of_ble_eq_true rfl) rfl (q_nwid ⟨by omega, by omega⟩) (q_s1_s (q_s1_1 rfl)) ?_
        refine q_go (t := 52) dX8_prints_87 (by decide) ?_
        first
          | (rw [if_neg h72]
             exact ih (i + 1) a (by omega) (by omega) ha (by omega))
          | (rw [if_pos h72, e1]
             exact ih (i + 1) (ud a.1 a.2 (ltr (pM (σ 1) 3 i)), a.2 + 1) (by omega) (by omega) (by show 0 ≤ a.2 + 1; omega) (by show a.2 + 1 + _ ≤ 6; omega))
      · have h72 := q_b1.mp h72
        rw [e1] at h72
        rw [if_pos h72] at hb
        refine q_aload_n (n := 76) dX8_prints_75 rfl rfl ?_
        refine q_aload_n (n := 77) dX8_prints_76 rfl rfl ?_
        refine q_iload_n (n := 78) dX8_prints_77 rfl rfl ?_
        refine q_v1D (n := 81) dX8_prints_78 rfl (zX8_letterOf i (prM σ a.1 a.2) s (fun k k0 k1 => by rw [prM_o (by decide)]; exact (hI.2.2.1 k k0 k1).2.2.2) ⟨by omega, by omega⟩ (by rw [prM_o (by decide)]; exact hI.2.1 i (by omega) (by omega))) vX8_letterOf lX8_363 rfl rfl mi0 rfl ?_
        refine q_v1U (n := 84) dX8_prints_81 rfl (zX8_writes _ σ s _ _ ⟨ha, by omega⟩) vX8_writes lX8_366 rfl rfl mi0 rfl ?_
        refine q_iinc (n := 87) dX8_prints_84 rfl (Nat.le_of_ble_eq_true rfl) rfl (q_nwid ⟨by omega, by omega⟩) (q_s1_s (q_s1_1 rfl)) ?_
        refine q_go (t := 52) dX8_prints_87 (by decide) ?_
        first
          | (rw [if_neg h72]
             exact ih (i + 1) a (by omega) (by omega) ha (by omega))
          | (rw [if_pos h72, e1]
             exact ih (i + 1) (ud a.1 a.2 (ltr (pM (σ 1) 3 i)), a.2 + 1) (by omega) (by omega) (by show 0 ≤ a.2 + 1; omega) (by show a.2 + 1 + _ ≤ 6; omega))
set_option maxRecDepth 100000 in
theorem zX8_prints (v : Int) (σ s : q_S) (hI : IM σ) : q_Ct mX8_prints shM [.inr (.inr 0), .inl v] (ovM σ s) (fun r σ' => (¬ (0 ≤ v ∧ v < σ 1 2) ∧ r = some (.inl (-1)) ∧ σ' = ovM σ s) ∨ (0 ≤ v ∧ v < σ 1 2) ∧ r = some (.inl (prF (pM (σ 1) 3) (σ 1 1) (pM (σ 1) 6 v) (pM (σ 1) 7 v) (σ 17)).2) ∧ σ' = (ovM (prM σ (prF (pM (σ 1) 3) (σ 1 1) (pM (σ 1) 6 v) (pM (σ 1) 7 v) (σ 17)).1 (prF (pM (σ 1) 3) (σ 1 1) (pM (σ 1) 6 v) (pM (σ 1) 7 v) (σ 17)).2) s)) := by
  refine q_ct 1 (by decide) rfl rfl ?_
  show q_WP mX8_prints shM 0 [some (.inr (.inr 0)), some (.inl v), none] [] (ovM σ s) _
  have hn := hI.nt
  have hvv := hI.nv
  refine q_aload_n (n := 1) dX8_prints_0 rfl rfl ?_
  refine q_iload_n (n := 2) dX8_prints_1 rfl rfl ?_
  refine q_v1D (n := 5) dX8_prints_2 rfl (zX8_isVertex _ σ _ (by omega)) vX8_isVertex lX8_192 rfl rfl mi0 rfl ?_
  refine q_if_ne (n := 8) (t := 10) dX8_prints_5 rfl (by decide) (fun h5 => ?_) (fun h5 => ?_)
  · have hv := q_b1.mp h5
    have hvt := hI.tie hv
    have ht1 := hvt.2.2.1
    have hbb := tie_bits hn hvt.2.2
    refine q_aload_n (n := 11) dX8_prints_10 rfl rfl ?_
    refine q_iconst (n := 12) dX8_prints_11 rfl (k := ?_)
    refine q_putI (kI := 34) (n := 15) dX8_prints_12 rfl pX8_204 mi0 rfl rfl ?_
    rw [om_upn rfl, prM_0]
    refine q_aload_n (n := 16) dX8_prints_15 rfl rfl ?_
    refine q_iload_n (n := 17) dX8_prints_16 rfl rfl ?_
    refine q_iconst (n := 18) dX8_prints_17 rfl (k := ?_)
    refine q_v2D (n := 21) dX8_prints_18 rfl (zX8_vP2 v (prM σ (σ 17) 0) s ⟨by omega, by omega⟩) vX8_vertexAt lX8_185 rfl rfl mi0 rfl ?_
    refine q_if_lt (n := 24) (t := 38) dX8_prints_21 rfl (by decide) (fun h21 => ?_) (fun h21 => ?_)
    · rw [show pM (prM σ (σ 17) 0 1) = pM (σ 1) by rw [prM_o (by decide)]] at h21
      refine q_aload_n (n := 39) dX8_prints_38 rfl rfl ?_
      refine q_bipush (n := 41) dX8_prints_39 rfl (k := ?_)
      refine q_v1U (n := 44) dX8_prints_41 rfl (zX8_writes _ σ s _ 0 ⟨by decide, by decide⟩) vX8_writes lX8_366 rfl rfl mi0 rfl ?_
      refine q_aload_n (n := 45) dX8_prints_44 rfl rfl ?_
      refine q_bipush (n := 47) dX8_prints_45 rfl (k := ?_)
      refine q_v1U (n := 50) dX8_prints_47 rfl (zX8_writes _ σ s _ (0 + 1) ⟨by decide, by decide⟩) vX8_writes lX8_366 rfl rfl mi0 rfl ?_
      refine q_iconst (n := 51) dX8_prints_50 rfl (k := ?_)
      refine q_istore_n (n := 52) dX8_prints_51 rfl (Nat.le_of_ble_eq_true rfl) (q_s1_s (q_s1_1 rfl)) ?_
      have e1 : ∀ m, pM (prM σ (σ 17) m 1) = pM (σ 1) := fun m => by rw [prM_o (by decide)]
      have ep : (prF (pM (σ 1) 3) (σ 1 1) (pM (σ 1) 6 v) (pM (σ 1) 7 v) (σ 17)) = prL (pM (σ 1) 3) (pM (σ 1) 7 v) (σ 1 1).toNat 0 (if (pM (σ 1) 6 v) = -1 then (ud (ud (σ 17) 0 45) (0 + 1) 62, 0 + 1 + 1) else (ud (ud (ud (σ 17) 0 (ltr ((pM (σ 1) 3) (pM (σ 1) 6 v)))) (0 + 1) 45) (0 + 1 + 1) 62, 0 + 1 + 1 + 1)) := rfl
      first
        | (have ha : (pM (σ 1) 6 v) = -1 := by omega
           rw [if_pos ha] at ep
           have h := lpX8_pr σ s v hI hv (σ 1 1).toNat 0 (ud (ud (σ 17) 0 45) (0 + 1) 62, 0 + 1 + 1) (by omega) (by decide) (by show (0 : Int) ≤ 0 + 1 + 1; decide) (by show (0 : Int) + 1 + 1 + _ ≤ 6; omega)
           rw [← ep] at h
           exact h.imp (fun r σ2 h2 => Or.inr ⟨hv, h2⟩))
        | (have ha : ¬ (pM (σ 1) 6 v) = -1 := by omega
           rw [if_neg ha] at ep
           rw [e1]
           have h := lpX8_pr σ s v hI hv (σ 1 1).toNat 0 (ud (ud (ud (σ 17) 0 (ltr ((pM (σ 1) 3) (pM (σ 1) 6 v)))) (0 + 1) 45) (0 + 1 + 1) 62, 0 + 1 + 1 + 1) (by omega) (by decide) (by show (0 : Int) ≤ 0 + 1 + 1 + 1; decide) (by show (0 : Int) + 1 + 1 + 1 + _ ≤ 6; omega)
           rw [← ep] at h
           exact h.imp (fun r σ2 h2 => Or.inr ⟨hv, h2⟩))
    · rw [show pM (prM σ (σ 17) 0 1) = pM (σ 1) by rw [prM_o (by decide)]] at h21
      refine q_aload_n (n := 25) dX8_prints_24 rfl rfl ?_
      refine q_aload_n (n := 26) dX8_prints_25 rfl rfl ?_
      refine q_aload_n (n := 27) dX8_prints_26 rfl rfl ?_
      refine q_iload_n (n := 28) dX8_prints_27 rfl rfl ?_
      refine q_iconst (n := 29) dX8_prints_28 rfl (k := ?_)
      refine q_v2D (n := 32) dX8_prints_29 rfl (zX8_vP2 v (prM σ (σ 17) 0) s ⟨by omega, by omega⟩) vX8_vertexAt lX8_185 rfl rfl mi0 rfl ?_
      refine q_v1D (n := 35) dX8_prints_32 rfl (zX8_letterOf (pM (σ 1) 6 v) (prM σ (σ 17) 0) s (fun k k0 k1 => by rw [prM_o (by decide)]; exact (hI.2.2.1 k k0 k1).2.2.2) ⟨by omega, by omega⟩ (by rw [prM_o (by decide)]; exact hI.2.1 (pM (σ 1) 6 v) (by omega) (by omega))) vX8_letterOf lX8_363 rfl rfl mi0 rfl ?_
      refine q_v1U (n := 38) dX8_prints_35 rfl (zX8_writes _ σ s _ 0 ⟨by decide, by decide⟩) vX8_writes lX8_366 rfl rfl mi0 rfl ?_
      refine q_aload_n (n := 39) dX8_prints_38 rfl rfl ?_
      refine q_bipush (n := 41) dX8_prints_39 rfl (k := ?_)
      refine q_v1U (n := 44) dX8_prints_41 rfl (zX8_writes _ σ s _ (0 + 1) ⟨by decide, by decide⟩) vX8_writes lX8_366 rfl rfl mi0 rfl ?_
      refine q_aload_n (n := 45) dX8_prints_44 rfl rfl ?_
      refine q_bipush (n := 47) dX8_prints_45 rfl (k := ?_)
      refine q_v1U (n := 50) dX8_prints_47 rfl (zX8_writes _ σ s _ (0 + 1 + 1) ⟨by decide, by decide⟩) vX8_writes lX8_366 rfl rfl mi0 rfl ?_
      refine q_iconst (n := 51) dX8_prints_50 rfl (k := ?_)
      refine q_istore_n (n := 52) dX8_prints_51 rfl (Nat.le_of_ble_eq_true rfl) (q_s1_s (q_s1_1 rfl)) ?_
      have e1 : ∀ m, pM (prM σ (σ 17) m 1) = pM (σ 1) := fun m => by rw [prM_o (by decide)]
      have ep : (prF (pM (σ 1) 3) (σ 1 1) (pM (σ 1) 6 v) (pM (σ 1) 7 v) (σ 17)) = prL (pM (σ 1) 3) (pM (σ 1) 7 v) (σ 1 1).toNat 0 (if (pM (σ 1) 6 v) = -1 then (ud (ud (σ 17) 0 45) (0 + 1) 62, 0 + 1 + 1) else (ud (ud (ud (σ 17) 0 (ltr ((pM (σ 1) 3) (pM (σ 1) 6 v)))) (0 + 1) 45) (0 + 1 + 1) 62, 0 + 1 + 1 + 1)) := rfl
      first
        | (have ha : (pM (σ 1) 6 v) = -1 := by omega
           rw [if_pos ha] at ep
           have h := lpX8_pr σ s v hI hv (σ 1 1).toNat 0 (ud (ud (σ 17) 0 45) (0 + 1) 62, 0 + 1 + 1) (by omega) (by decide) (by show (0 : Int) ≤ 0 + 1 + 1; decide) (by show (0 : Int) + 1 + 1 + _ ≤ 6; omega)
           rw [← ep] at h
           exact h.imp (fun r σ2 h2 => Or.inr ⟨hv, h2⟩))
        | (have ha : ¬ (pM (σ 1) 6 v) = -1 := by omega
           rw [if_neg ha] at ep
           rw [e1]
           have h := lpX8_pr σ s v hI hv (σ 1 1).toNat 0 (ud (ud (ud (σ 17) 0 (ltr ((pM (σ 1) 3) (pM (σ 1) 6 v)))) (0 + 1) 45) (0 + 1 + 1) 62, 0 + 1 + 1 + 1) (by omega) (by decide) (by show (0 : Int) ≤ 0 + 1 + 1 + 1; decide) (by show (0 : Int) + 1 + 1 + 1 + _ ≤ 6; omega)
           rw [← ep] at h
           exact h.imp (fun r σ2 h2 => Or.inr ⟨hv, h2⟩))
  · have hv := q_b0.mp h5
    refine q_iconst (n := 9) dX8_prints_8 rfl (k := ?_)
    refine q_iret dX8_prints_9 rfl (fun _ => rfl) ?_
    exact Or.inl ⟨hv, rfl, rfl⟩
set_option maxRecDepth 100000 in
theorem zX8_paper (i : Int) (σ s : q_S) (hI : IM σ) : q_Ct mX8_paper shM [.inr (.inr 0), .inl i] (ovM σ s) (fun r σ' => r = some (.inl (fPaper (σ 0 34) (σ 17) i)) ∧ σ' = ovM σ s) := by
  refine q_ct 0 (by decide) rfl rfl ?_
  show q_WP mX8_paper shM 0 [some (.inr (.inr 0)), some (.inl i)] [] (ovM σ s) _
  have hl := hI.2.2.2.2.2.2.1
  refine q_iload_n (n := 1) dX8_paper_0 rfl rfl ?_
  refine q_if_ge (n := 4) (t := 6) dX8_paper_1 rfl (by decide) (fun h1 => ?_) (fun h1 => ?_)
  · skip
    refine q_iload_n (n := 7) dX8_paper_6 rfl rfl ?_
    refine q_aload_n (n := 8) dX8_paper_7 rfl rfl ?_
    refine q_getIF (σ 0) (kI := 34) (n := 11) (by decide) dX8_paper_8 rfl fX8_204 mi0 rfl rfl rfl ?_
    refine q_icmp_ge (n := 14) (t := 23) dX8_paper_11 rfl (by decide) (fun h11 => ?_) (fun h11 => ?_)
    · skip
      refine q_bipush (n := 25) dX8_paper_23 rfl (k := ?_)
      refine q_iret dX8_paper_25 rfl (fun _ => rfl) ?_
      refine ⟨congrArg some (congrArg Sum.inl (Eq.symm ?_)), rfl⟩
      unfold fPaper
      first
        | (rw [if_pos (by omega)]; done)
        | (rw [if_neg (by omega), if_pos (by omega)]; done)
        | (rw [if_neg (by omega), if_neg (by omega)]; done)
    · skip
      refine q_aload_n (n := 15) dX8_paper_14 rfl rfl ?_
      refine q_getR (n := 18) dX8_paper_15 rfl fX8_72 mi0 rfl ?_
      refine q_iload_n (n := 19) dX8_paper_18 rfl rfl ?_
      refine q_ialoadF (σ 17) (n := 20) dX8_paper_19 rfl mi17 ⟨by omega, by omega⟩ rfl ?_
      refine q_go (t := 25) dX8_paper_20 (by decide) ?_
      refine q_iret dX8_paper_25 rfl (fun _ => rfl) ?_
      refine ⟨congrArg some (congrArg Sum.inl (Eq.symm ?_)), rfl⟩
      unfold fPaper
      first
        | (rw [if_pos (by omega)]; done)
        | (rw [if_neg (by omega), if_pos (by omega)]; done)
        | (rw [if_neg (by omega), if_neg (by omega)]; done)
  · skip
    refine q_iconst (n := 5) dX8_paper_4 rfl (k := ?_)
    refine q_iret dX8_paper_5 rfl (fun _ => rfl) ?_
    refine ⟨congrArg some (congrArg Sum.inl (Eq.symm ?_)), rfl⟩
    unfold fPaper
    first
      | (rw [if_pos (by omega)]; done)
      | (rw [if_neg (by omega), if_pos (by omega)]; done)
      | (rw [if_neg (by omega), if_neg (by omega)]; done)
