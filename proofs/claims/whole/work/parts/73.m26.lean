theorem zr_st {τ : q_S} {g : Int → Int} {l i : Int} (h : 0 ≤ i) : q_up (q_row τ 19 (fun x => if 24 * l ≤ x ∧ x < 24 * l + i then 0 else g x)) 19 (24 * l + i) 0 = q_row τ 19 (fun x => if 24 * l ≤ x ∧ x < 24 * l + (i + 1) then 0 else g x) := by
  rw [q_row_up]
  congr 1
  funext x
  by_cases e : x = 24 * l + i
  · rw [if_pos e, if_pos (by omega)]
  · rw [if_neg e]
    by_cases e2 : 24 * l ≤ x ∧ x < 24 * l + i
    · rw [if_pos e2, if_pos (by omega)]
    · rw [if_neg e2, if_neg (by omega)]
set_option maxRecDepth 100000 in
theorem lpX8_li (σ s : q_S) (l n_ : Int) (hl : 0 ≤ l ∧ l < 3) : ∀ (n : Nat) (i : Int), (n : Int) + i = 24 → 0 ≤ i → q_WP mX8_list shM 31 [some (.inr (.inr 0)), some (.inl l), some (.inl n_), some (.inl i)] [] (ovM (q_row (q_up σ 18 l n_) 19 (fun x => if 24 * l ≤ x ∧ x < 24 * l + i then 0 else σ 19 x)) s) (fun r σ' => r = some (.inl 1) ∧ σ' = ovM (q_row (q_up σ 18 l n_) 19 (fun x => if 24 * l ≤ x ∧ x < 24 * l + 24 then 0 else σ 19 x)) s) := by
  intro n
  induction n with
  | zero =>
    intro i hi h0
    obtain rfl : i = 24 := by omega
    refine q_iload_n (n := 32) dX8_list_31 rfl rfl ?_
    refine q_bipush (n := 34) dX8_list_32 rfl (k := ?_)
    refine q_icmp_ge (n := 37) (t := 55) dX8_list_34 rfl (by decide) (fun h34 => ?_) (fun h34 => ?_)
    · skip
      refine q_iconst (n := 56) dX8_list_55 rfl (k := ?_)
      refine q_iret dX8_list_56 rfl (fun _ => rfl) ?_
      exact ⟨rfl, rfl⟩
    · exact absurd h34 (by omega)
  | succ n ih =>
    intro i hi h0
    refine q_iload_n (n := 32) dX8_list_31 rfl rfl ?_
    refine q_bipush (n := 34) dX8_list_32 rfl (k := ?_)
    refine q_icmp_ge (n := 37) (t := 55) dX8_list_34 rfl (by decide) (fun h34 => ?_) (fun h34 => ?_)
    · exact absurd h34 (by omega)
    · skip
      refine q_aload_n (n := 38) dX8_list_37 rfl rfl ?_
      refine q_getR (n := 41) dX8_list_38 rfl fX8_78 mi0 rfl ?_
      refine q_bipush (n := 43) dX8_list_41 rfl (k := ?_)
      refine q_iload_n (n := 44) dX8_list_43 rfl rfl ?_
      refine q_imulS (n := 45) dX8_list_44 rfl ⟨by omega, by omega⟩ ?_
      refine q_iload_n (n := 46) dX8_list_45 rfl rfl ?_
      refine q_iaddS (n := 47) dX8_list_46 rfl ⟨by omega, by omega⟩ ?_
      refine q_lconst (x := 0) (n := 48) dX8_list_47 rfl (k := ?_)
      refine q_lastore (n := 49) dX8_list_48 rfl mi19 ⟨by omega, by omega⟩ ?_
      rw [om_upn rfl, zr_st h0]
      refine q_iinc (n := 52) dX8_list_49 rfl (Nat.le_of_ble_eq_true rfl) rfl (q_nwid ⟨by omega, by omega⟩) (q_s1_s (q_s1_s (q_s1_1 rfl))) ?_
      refine q_go (t := 31) dX8_list_52 (by decide) ?_
      exact ih (i + 1) (by omega) (by omega)
set_option maxRecDepth 100000 in
theorem zX8_list (l n_ : Int) (σ s : q_S) (hI : IM σ) : q_Ct mX8_list shM [.inr (.inr 0), .inl l, .inl n_] (ovM σ s) (fun r σ' => ∃ z, r = some z ∧ (((¬ (0 ≤ l ∧ l < 3) ∨ 24 < n_) ∧ z = .inl (-1) ∧ σ' = ovM σ s) ∨ (((0 ≤ l ∧ l < 3) ∧ n_ < 0) ∧ z = .inl (-14) ∧ σ' = ovM σ s) ∨ (((0 ≤ l ∧ l < 3) ∧ 0 ≤ n_ ∧ n_ ≤ 24) ∧ z = .inl 1 ∧ σ' = ovM (q_row (q_up σ 18 l n_) 19 (fun x => if 24 * l ≤ x ∧ x < 24 * l + 24 then 0 else σ 19 x)) s))) := by
  refine q_ct 1 (by decide) rfl rfl ?_
  show q_WP mX8_list shM 0 [some (.inr (.inr 0)), some (.inl l), some (.inl n_), none] [] (ovM σ s) _
  refine q_iload_n (n := 1) dX8_list_0 rfl rfl ?_
  refine q_c1D (n := 4) dX8_list_1 rfl (zX8_isList _ _ _) vX8_isList lX8_369 rfl rfl ?_
  refine q_if_eq (n := 7) (t := 13) dX8_list_4 rfl (by decide) (fun h4 => ?_) (fun h4 => ?_)
  · have h4 := q_b0.mp h4
    refine q_iconst (n := 14) dX8_list_13 rfl (k := ?_)
    refine q_iret dX8_list_14 rfl (fun _ => rfl) ?_
    exact ⟨_, rfl, Or.inl ⟨by omega, rfl, rfl⟩⟩
  · have h4 := q_b1.mp h4
    refine q_iload_n (n := 8) dX8_list_7 rfl rfl ?_
    refine q_bipush (n := 10) dX8_list_8 rfl (k := ?_)
    refine q_icmp_le (n := 13) (t := 15) dX8_list_10 rfl (by decide) (fun h10 => ?_) (fun h10 => ?_)
    · skip
      refine q_iload_n (n := 16) dX8_list_15 rfl rfl ?_
      refine q_if_ge (n := 19) (t := 22) dX8_list_16 rfl (by decide) (fun h16 => ?_) (fun h16 => ?_)
      · skip
        refine q_aload_n (n := 23) dX8_list_22 rfl rfl ?_
        refine q_getR (n := 26) dX8_list_23 rfl fX8_75 mi0 rfl ?_
        refine q_iload_n (n := 27) dX8_list_26 rfl rfl ?_
        refine q_iload_n (n := 28) dX8_list_27 rfl rfl ?_
        refine q_iastore (n := 29) dX8_list_28 rfl mi18 ⟨by omega, by omega⟩ ?_
        rw [om_upn rfl]
        refine q_iconst (n := 30) dX8_list_29 rfl (k := ?_)
        refine q_istore_n (n := 31) dX8_list_30 rfl (Nat.le_of_ble_eq_true rfl) (q_s1_s (q_s1_s (q_s1_1 rfl))) ?_
        have e : q_up σ 18 l n_ = (q_row (q_up σ 18 l n_) 19 (fun x => if 24 * l ≤ x ∧ x < 24 * l + 0 then 0 else σ 19 x)) := by
          have e2 : (fun x => if 24 * l ≤ x ∧ x < 24 * l + 0 then 0 else σ 19 x) = σ 19 := by
            funext x
            exact if_neg (by omega)
          rw [e2, ← q_up_o (σ := σ) (c := 18) (x := l) (v := n_) (c' := 19) (by decide), q_row_0]
        refine q_cut _ _ (ovM (q_row (q_up σ 18 l n_) 19 (fun x => if 24 * l ≤ x ∧ x < 24 * l + 0 then 0 else σ 19 x)) s) rfl rfl (congrArg (fun z => ovM z s) e) ?_
        refine (lpX8_li σ s l n_ h4 24 0 (by decide) (by decide)).imp ?_
        rintro r σ2 ⟨h1, h2⟩
        exact ⟨_, h1, Or.inr (Or.inr ⟨⟨h4, by omega, by omega⟩, rfl, h2⟩)⟩
      · skip
        refine q_bipush (n := 21) dX8_list_19 rfl (k := ?_)
        refine q_iret dX8_list_21 rfl (fun _ => rfl) ?_
        exact ⟨_, rfl, Or.inr (Or.inl ⟨⟨by omega, by omega⟩, rfl, rfl⟩)⟩
    · skip
      refine q_iconst (n := 14) dX8_list_13 rfl (k := ?_)
      refine q_iret dX8_list_14 rfl (fun _ => rfl) ?_
      exact ⟨_, rfl, Or.inl ⟨by omega, rfl, rfl⟩⟩
set_option maxRecDepth 100000 in
theorem zX8_set (l i x : Int) (σ s : q_S) (hI : IM σ) : q_Ct mX8_set shM [.inr (.inr 0), .inl l, .inl i, .inr (.inl x)] (ovM σ s) (fun r σ' => ∃ z, r = some z ∧ ((¬ (0 ≤ l ∧ l < 3) ∧ z = .inl (-1) ∧ σ' = ovM σ s) ∨ (((0 ≤ l ∧ l < 3) ∧ σ 18 l < 0) ∧ z = .inl (-11) ∧ σ' = ovM σ s) ∨ (((0 ≤ l ∧ l < 3) ∧ 0 ≤ σ 18 l ∧ ¬ (0 ≤ i ∧ i < σ 18 l)) ∧ z = .inl (-13) ∧ σ' = ovM σ s) ∨ (((0 ≤ l ∧ l < 3) ∧ 0 ≤ i ∧ i < σ 18 l) ∧ z = .inl 1 ∧ σ' = ovM (q_up σ 19 (24 * l + i) x) s))) := by
  refine q_ct 0 (by decide) rfl rfl ?_
  show q_WP mX8_set shM 0 [some (.inr (.inr 0)), some (.inl l), some (.inl i), some (.inr (.inl x)), none] [] (ovM σ s) _
  have hsz := hI.2.2.2.2.2.2.2
  refine q_iload_n (n := 1) dX8_set_0 rfl rfl ?_
  refine q_c1D (n := 4) dX8_set_1 rfl (zX8_isList _ _ _) vX8_isList lX8_369 rfl rfl ?_
  refine q_if_ne (n := 7) (t := 9) dX8_set_4 rfl (by decide) (fun h4 => ?_) (fun h4 => ?_)
  · have h4 := q_b1.mp h4
    have hs1 := hsz l h4.1 h4.2
    refine q_aload_n (n := 10) dX8_set_9 rfl rfl ?_
    refine q_getR (n := 13) dX8_set_10 rfl fX8_75 mi0 rfl ?_
    refine q_iload_n (n := 14) dX8_set_13 rfl rfl ?_
    refine q_ialoadF (σ 18) (n := 15) dX8_set_14 rfl mi18 ⟨by omega, by omega⟩ rfl ?_
    refine q_if_ge (n := 18) (t := 21) dX8_set_15 rfl (by decide) (fun h15 => ?_) (fun h15 => ?_)
    · skip
      refine q_iload_n (n := 22) dX8_set_21 rfl rfl ?_
      refine q_i2l (n := 23) dX8_set_22 rfl ?_
      refine q_lconst (x := 0) (n := 24) dX8_set_23 rfl (k := ?_)
      refine q_aload_n (n := 25) dX8_set_24 rfl rfl ?_
      refine q_getR (n := 28) dX8_set_25 rfl fX8_75 mi0 rfl ?_
      refine q_iload_n (n := 29) dX8_set_28 rfl rfl ?_
      refine q_ialoadF (σ 18) (n := 30) dX8_set_29 rfl mi18 ⟨by omega, by omega⟩ rfl ?_
      refine q_iconst (n := 31) dX8_set_30 rfl (k := ?_)
      refine q_isubS (n := 32) dX8_set_31 rfl ⟨by omega, by omega⟩ ?_
      refine q_i2l (n := 33) dX8_set_32 rfl ?_
      refine q_c3D (n := 36) dX8_set_33 rfl (zX8_in _ _ _ _ _) vX8_in lX8_13 rfl rfl ?_
      refine q_if_ne (n := 39) (t := 42) dX8_set_36 rfl (by decide) (fun h36 => ?_) (fun h36 => ?_)
      · have h36 := q_b1.mp h36
        refine q_aload_n (n := 43) dX8_set_42 rfl rfl ?_
        refine q_getR (n := 46) dX8_set_43 rfl fX8_78 mi0 rfl ?_
        refine q_bipush (n := 48) dX8_set_46 rfl (k := ?_)
        refine q_iload_n (n := 49) dX8_set_48 rfl rfl ?_
        refine q_imulS (n := 50) dX8_set_49 rfl ⟨by omega, by omega⟩ ?_
        refine q_iload_n (n := 51) dX8_set_50 rfl rfl ?_
        refine q_iaddS (n := 52) dX8_set_51 rfl ⟨by omega, by omega⟩ ?_
        refine q_lload_n (n := 53) dX8_set_52 rfl rfl ?_
        refine q_lastore (n := 54) dX8_set_53 rfl mi19 ⟨by omega, by omega⟩ ?_
        rw [om_upn rfl]
        refine q_iconst (n := 55) dX8_set_54 rfl (k := ?_)
        refine q_iret dX8_set_55 rfl (fun _ => rfl) ?_
        exact ⟨_, rfl, Or.inr (Or.inr (Or.inr ⟨⟨h4, by omega⟩, rfl, rfl⟩))⟩
      · have h36 := q_b0.mp h36
        refine q_bipush (n := 41) dX8_set_39 rfl (k := ?_)
        refine q_iret dX8_set_41 rfl (fun _ => rfl) ?_
        exact ⟨_, rfl, Or.inr (Or.inr (Or.inl ⟨⟨h4, by omega, by omega⟩, rfl, rfl⟩))⟩
    · skip
      refine q_bipush (n := 20) dX8_set_18 rfl (k := ?_)
      refine q_iret dX8_set_20 rfl (fun _ => rfl) ?_
      exact ⟨_, rfl, Or.inr (Or.inl ⟨⟨h4, by omega⟩, rfl, rfl⟩)⟩
  · have h4 := q_b0.mp h4
    refine q_iconst (n := 8) dX8_set_7 rfl (k := ?_)
    refine q_iret dX8_set_8 rfl (fun _ => rfl) ?_
    exact ⟨_, rfl, Or.inl ⟨h4, rfl, rfl⟩⟩
set_option maxRecDepth 100000 in
theorem zX8_get (l i : Int) (σ s : q_S) (hI : IM σ) : q_Ct mX8_get shM [.inr (.inr 0), .inl l, .inl i] (ovM σ s) (fun r σ' => r = some (.inr (.inl (fGet (σ 18) (fun l j => σ 19 (24 * l + j)) l i))) ∧ σ' = ovM σ s) := by
  refine q_ct 0 (by decide) rfl rfl ?_
  show q_WP mX8_get shM 0 [some (.inr (.inr 0)), some (.inl l), some (.inl i)] [] (ovM σ s) _
  have hsz := hI.2.2.2.2.2.2.2
  refine q_iload_n (n := 1) dX8_get_0 rfl rfl ?_
  refine q_c1D (n := 4) dX8_get_1 rfl (zX8_isList _ _ _) vX8_isList lX8_369 rfl rfl ?_
  refine q_if_eq (n := 7) (t := 39) dX8_get_4 rfl (by decide) (fun h4 => ?_) (fun h4 => ?_)
  · have h4 := q_b0.mp h4
    refine q_ldc2 (x := -9223372036854775808) (n := 42) dX8_get_39 rfl kX8_190 (k := ?_)
    refine q_lret dX8_get_42 rfl ?_
    refine ⟨congrArg some (congrArg Sum.inr (congrArg Sum.inl (Eq.symm ?_))), rfl⟩
    unfold fGet
    first
      | exact if_neg (fun z => h4 z.1)
      | (have hz : (0 ≤ l ∧ l < 3) ∧ 0 ≤ i ∧ i < σ 18 l := by omega
         exact if_pos hz)
      | (have hz : ¬ ((0 ≤ l ∧ l < 3) ∧ 0 ≤ i ∧ i < σ 18 l) := by omega
         exact if_neg hz)
  · have h4 := q_b1.mp h4
    have hs1 := hsz l h4.1 h4.2
    refine q_iload_n (n := 8) dX8_get_7 rfl rfl ?_
    refine q_i2l (n := 9) dX8_get_8 rfl ?_
    refine q_lconst (x := 0) (n := 10) dX8_get_9 rfl (k := ?_)
    refine q_aload_n (n := 11) dX8_get_10 rfl rfl ?_
    refine q_getR (n := 14) dX8_get_11 rfl fX8_75 mi0 rfl ?_
    refine q_iload_n (n := 15) dX8_get_14 rfl rfl ?_
    refine q_ialoadF (σ 18) (n := 16) dX8_get_15 rfl mi18 ⟨by omega, by omega⟩ rfl ?_
    refine q_iconst (n := 17) dX8_get_16 rfl (k := ?_)
    refine q_isubS (n := 18) dX8_get_17 rfl ⟨by omega, by omega⟩ ?_
    refine q_i2l (n := 19) dX8_get_18 rfl ?_
    refine q_c3D (n := 22) dX8_get_19 rfl (zX8_in _ _ _ _ _) vX8_in lX8_13 rfl rfl ?_
    refine q_if_eq (n := 25) (t := 39) dX8_get_22 rfl (by decide) (fun h22 => ?_) (fun h22 => ?_)
    · have h22 := q_b0.mp h22
      refine q_ldc2 (x := -9223372036854775808) (n := 42) dX8_get_39 rfl kX8_190 (k := ?_)
      refine q_lret dX8_get_42 rfl ?_
      refine ⟨congrArg some (congrArg Sum.inr (congrArg Sum.inl (Eq.symm ?_))), rfl⟩
      unfold fGet
      first
        | exact if_neg (fun z => h4 z.1)
        | (have hz : (0 ≤ l ∧ l < 3) ∧ 0 ≤ i ∧ i < σ 18 l := by omega
           exact if_pos hz)
        | (have hz : ¬ ((0 ≤ l ∧ l < 3) ∧ 0 ≤ i ∧ i < σ 18 l) := by omega
           exact if_neg hz)
    · have h22 := q_b1.mp h22
      refine q_aload_n (n := 26) dX8_get_25 rfl rfl ?_
      refine q_getR (n := 29) dX8_get_26 rfl fX8_78 mi0 rfl ?_
      refine q_bipush (n := 31) dX8_get_29 rfl (k := ?_)
      refine q_iload_n (n := 32) dX8_get_31 rfl rfl ?_
      refine q_imulS (n := 33) dX8_get_32 rfl ⟨by omega, by omega⟩ ?_
      refine q_iload_n (n := 34) dX8_get_33 rfl rfl ?_
      refine q_iaddS (n := 35) dX8_get_34 rfl ⟨by omega, by omega⟩ ?_
      refine q_laloadF (σ 19) (n := 36) dX8_get_35 rfl mi19 ⟨by omega, by omega⟩ rfl ?_
      refine q_go (t := 42) dX8_get_36 (by decide) ?_
      refine q_lret dX8_get_42 rfl ?_
      refine ⟨congrArg some (congrArg Sum.inr (congrArg Sum.inl (Eq.symm ?_))), rfl⟩
      unfold fGet
      first
        | exact if_neg (fun z => h4 z.1)
        | (have hz : (0 ≤ l ∧ l < 3) ∧ 0 ≤ i ∧ i < σ 18 l := by omega
           exact if_pos hz)
        | (have hz : ¬ ((0 ≤ l ∧ l < 3) ∧ 0 ≤ i ∧ i < σ 18 l) := by omega
           exact if_neg hz)
theorem tn4 {f : Int → Int} {F x y i : Int} {g : Int → Int} (h : 0 ≤ i) : (tnF f F x y g (4 * i) = lowG (pX f F y (g i)) (un f (g i)) 0 ∧ tnF f F x y g (4 * i + 1) = lowG (pX f F y (g i)) (un f (g i)) 1) ∧ tnF f F x y g (4 * i + 2) = lowG (pY f F x (g i)) (un f (g i)) 0 ∧ tnF f F x y g (4 * i + 3) = lowG (pY f F x (g i)) (un f (g i)) 1 := by
  unfold tnF
  refine ⟨⟨?_, ?_⟩, ?_, ?_⟩
  · rw [if_pos (by omega), show 4 * i / 4 = i by omega, show 4 * i % 2 = 0 by omega]
  · rw [if_pos (by omega), show (4 * i + 1) / 4 = i by omega, show (4 * i + 1) % 2 = 1 by omega]
  · rw [if_neg (by omega), show (4 * i + 2) / 4 = i by omega, show (4 * i + 2) % 2 = 0 by omega]
  · rw [if_neg (by omega), show (4 * i + 3) / 4 = i by omega, show (4 * i + 3) % 2 = 1 by omega]
set_option maxRecDepth 100000 in
theorem lpX8_tp (σ : q_S) (v : Int) (hI : IM σ) (hv : 0 ≤ v ∧ v < σ 1 2) (hb : balb (pM (σ 1) 2) (σ 1 1) (pM (σ 1) 6 v) (pM (σ 1) 7 v) = true) : ∀ (n : Nat) (i : Int) (s : q_S), (n : Int) + i = mC (pM (σ 1) 6 v) (pM (σ 1) 7 v) (σ 1 1) → 0 ≤ i → s 0 16 = mC (pM (σ 1) 6 v) (pM (σ 1) 7 v) (σ 1 1) → (∀ j, 0 ≤ j → j < mC (pM (σ 1) 6 v) (pM (σ 1) 7 v) (σ 1 1) → s 9 j = mF (pM (σ 1) 6 v) (pM (σ 1) 7 v) (σ 1 1) j) → (∀ j, 0 ≤ j → j < 4 * i → s 20 j = (tnF (pM (σ 1) 2) (σ 1 0) (pM (σ 1) 4 v) (pM (σ 1) 5 v) (mF (pM (σ 1) 6 v) (pM (σ 1) 7 v) (σ 1 1))) j) → q_WP mX8_tellsPushes shM 7 [some (.inr (.inr 0)), some (.inl v), some (.inl i)] [] (ovM σ s) (fun r σ' => r = none ∧ (∃ s', σ' = ovM σ s' ∧ s' 0 16 = mC (pM (σ 1) 6 v) (pM (σ 1) 7 v) (σ 1 1) ∧ ∀ j, 0 ≤ j → j < 4 * mC (pM (σ 1) 6 v) (pM (σ 1) 7 v) (σ 1 1) → s' 20 j = (tnF (pM (σ 1) 2) (σ 1 0) (pM (σ 1) 4 v) (pM (σ 1) 5 v) (mF (pM (σ 1) 6 v) (pM (σ 1) 7 v) (σ 1 1))) j)) := by
  have hn := hI.nt
  have hvv := hI.nv
  have hvt := hI.tie hv
  have hmc := mem_C hn hvt.2.2
  have hq := hI.fq
  intro n
  induction n with
  | zero =>
    intro i s hi h0 hm0 hm ht
    refine q_iload_n (n := 8) dX8_tellsPushes_7 rfl rfl ?_
    refine q_aload_n (n := 9) dX8_tellsPushes_8 rfl rfl ?_
    refine q_getIE (mC (pM (σ 1) 6 v) (pM (σ 1) 7 v) (σ 1 1)) (kI := 16) (n := 12) (by decide) dX8_tellsPushes_9 rfl fX8_218 mi0 rfl rfl hm0 ?_
    refine q_icmp_ge (n := 15) (t := 129) dX8_tellsPushes_12 rfl (by decide) (fun h12 => ?_) (fun h12 => ?_)
    · skip
      refine q_vret dX8_tellsPushes_129 rfl ?_
      exact ⟨rfl, s, rfl, hm0, fun j j0 j1 => ht j j0 (by omega)⟩
    · exact absurd h12 (by omega)
  | succ n ih =>
    intro i s hi h0 hm0 hm hto
    have ht0 := hI.mem hv (j := i) ⟨h0, by omega⟩
    have hmi := hm i h0 (by omega)
    obtain ⟨t, ht⟩ : ∃ t, t = mF (pM (σ 1) 6 v) (pM (σ 1) 7 v) (σ 1 1) i := ⟨_, rfl⟩
    rw [← ht] at ht0 hmi
    have hg := hI.pt ht0
    have hB := balb_at hb (j := i) ⟨h0, by omega⟩
    rw [← ht] at hB
    have hub := un_bd hg hB
    have hpx := pXY_div hg hB hq hvt.1 hvt.2.1
    obtain ⟨⟨hpx1, hpx2⟩, _⟩ := hpx
    have hp1 := hpx1
    have hp2 := hpx2
    unfold q_bd at hp1 hp2
    refine q_iload_n (n := 8) dX8_tellsPushes_7 rfl rfl ?_
    refine q_aload_n (n := 9) dX8_tellsPushes_8 rfl rfl ?_
    refine q_getIE (mC (pM (σ 1) 6 v) (pM (σ 1) 7 v) (σ 1 1)) (kI := 16) (n := 12) (by decide) dX8_tellsPushes_9 rfl fX8_218 mi0 rfl rfl hm0 ?_
    refine q_icmp_ge (n := 15) (t := 129) dX8_tellsPushes_12 rfl (by decide) (fun h12 => ?_) (fun h12 => ?_)
    · exact absurd h12 (by omega)
    · skip
      refine q_aload_n (n := 16) dX8_tellsPushes_15 rfl rfl ?_
      refine q_aload_n (n := 17) dX8_tellsPushes_16 rfl rfl ?_
      refine q_getR (n := 20) dX8_tellsPushes_17 rfl fX8_48 mi0 rfl ?_
      refine q_iload_n (n := 21) dX8_tellsPushes_20 rfl rfl ?_
      refine q_ialoadE (t) (n := 22) dX8_tellsPushes_21 rfl mi9 ⟨by omega, by omega⟩ hmi ?_
      refine q_aload_n (n := 23) dX8_tellsPushes_22 rfl rfl ?_
      refine q_iload_n (n := 24) dX8_tellsPushes_23 rfl rfl ?_
      refine q_iconst (n := 25) dX8_tellsPushes_24 rfl (k := ?_)
      refine q_v2D (n := 28) dX8_tellsPushes_25 rfl (zX8_vP0 _ σ _ ⟨by omega, by omega⟩) vX8_vertexAt lX8_185 rfl rfl mi0 rfl ?_
      refine q_aload_n (n := 29) dX8_tellsPushes_28 rfl rfl ?_
      refine q_iload_n (n := 30) dX8_tellsPushes_29 rfl rfl ?_
      refine q_iconst (n := 31) dX8_tellsPushes_30 rfl (k := ?_)
      refine q_v2D (n := 34) dX8_tellsPushes_31 rfl (zX8_vP1 _ σ _ ⟨by omega, by omega⟩) vX8_vertexAt lX8_185 rfl rfl mi0 rfl ?_
      refine q_v3W (n := 37) dX8_tellsPushes_34 rfl (zX8_tellsPush t (pM (σ 1) 4 v) (pM (σ 1) 5 v) σ _ hI ht0 hB hvt.1 hvt.2.1) vX8_tellsPush lX8_211 rfl rfl mi0 rfl (fun σ34 h34 => ?_)
      obtain ⟨s2, rfl, hps, hfr⟩ := h34
      · skip
        refine q_aload_n (n := 38) dX8_tellsPushes_37 rfl rfl ?_
        refine q_getR (n := 41) dX8_tellsPushes_38 rfl fX8_82 mi0 rfl ?_
        refine q_iconst (n := 42) dX8_tellsPushes_41 rfl (k := ?_)
        refine q_iload_n (n := 43) dX8_tellsPushes_42 rfl rfl ?_
        refine q_imulS (n := 44) dX8_tellsPushes_43 rfl ⟨by omega, by omega⟩ ?_
        refine q_aload_n (n := 45) dX8_tellsPushes_44 rfl rfl ?_
        refine q_getJE (pX (pM (σ 1) 2) (σ 1 0) (pM (σ 1) 5 v) t) (kI := 13) (n := 48) dX8_tellsPushes_45 rfl fX8_129 mi0 rfl rfl (by rw [om_s rfl]; exact hps.1) ?_
        refine q_aload_n (n := 49) dX8_tellsPushes_48 rfl rfl ?_
        refine q_getJE (un (pM (σ 1) 2) t) (kI := 12) (n := 52) dX8_tellsPushes_49 rfl fX8_115 mi0 rfl rfl (by rw [om_s rfl]; exact hps.2.2) ?_
        refine q_iconst (n := 53) dX8_tellsPushes_52 rfl (k := ?_)
        refine q_c3D (n := 56) dX8_tellsPushes_53 rfl (zX8_lowest _ _ _ _ _ ⟨by omega, by omega⟩ ⟨by omega, by omega⟩) vX8_lowest lX8_207 rfl rfl ?_
        refine q_lastore (n := 57) dX8_tellsPushes_56 rfl mi20 ⟨by omega, by omega⟩ ?_
        rw [om_up rfl]
        refine q_aload_n (n := 58) dX8_tellsPushes_57 rfl rfl ?_
        refine q_getR (n := 61) dX8_tellsPushes_58 rfl fX8_82 mi0 rfl ?_
        refine q_iconst (n := 62) dX8_tellsPushes_61 rfl (k := ?_)
        refine q_iload_n (n := 63) dX8_tellsPushes_62 rfl rfl ?_
        refine q_imulS (n := 64) dX8_tellsPushes_63 rfl ⟨by omega, by omega⟩ ?_
        refine q_iconst (n := 65) dX8_tellsPushes_64 rfl (k := ?_)
        refine q_iaddS (n := 66) dX8_tellsPushes_65 rfl ⟨by omega, by omega⟩ ?_
        refine q_aload_n (n := 67) dX8_tellsPushes_66 rfl rfl ?_
        refine q_getJE (pX (pM (σ 1) 2) (σ 1 0) (pM (σ 1) 5 v) t) (kI := 13) (n := 70) dX8_tellsPushes_67 rfl fX8_129 mi0 rfl rfl (by rw [om_s rfl, q_up_n (by omega)]; exact hps.1) ?_
        refine q_aload_n (n := 71) dX8_tellsPushes_70 rfl rfl ?_
        refine q_getJE (un (pM (σ 1) 2) t) (kI := 12) (n := 74) dX8_tellsPushes_71 rfl fX8_115 mi0 rfl rfl (by rw [om_s rfl, q_up_n (by omega)]; exact hps.2.2) ?_
        refine q_iconst (n := 75) dX8_tellsPushes_74 rfl (k := ?_)
        refine q_c3D (n := 78) dX8_tellsPushes_75 rfl (zX8_lowest _ _ _ _ _ ⟨by omega, by omega⟩ ⟨by omega, by omega⟩) vX8_lowest lX8_207 rfl rfl ?_
        refine q_lastore (n := 79) dX8_tellsPushes_78 rfl mi20 ⟨by omega, by omega⟩ ?_
        rw [om_up rfl]
        refine q_aload_n (n := 80) dX8_tellsPushes_79 rfl rfl ?_
        refine q_getR (n := 83) dX8_tellsPushes_80 rfl fX8_82 mi0 rfl ?_
        refine q_iconst (n := 84) dX8_tellsPushes_83 rfl (k := ?_)
        refine q_iload_n (n := 85) dX8_tellsPushes_84 rfl rfl ?_
        refine q_imulS (n := 86) dX8_tellsPushes_85 rfl ⟨by omega, by omega⟩ ?_
        refine q_iconst (n := 87) dX8_tellsPushes_86 rfl (k := ?_)
        refine q_iaddS (n := 88) dX8_tellsPushes_87 rfl ⟨by omega, by omega⟩ ?_
        refine q_aload_n (n := 89) dX8_tellsPushes_88 rfl rfl ?_
        refine q_getJE (pY (pM (σ 1) 2) (σ 1 0) (pM (σ 1) 4 v) t) (kI := 14) (n := 92) dX8_tellsPushes_89 rfl fX8_132 mi0 rfl rfl (by rw [om_s rfl, q_up_n (by omega), q_up_n (by omega)]; exact hps.2.1) ?_
        refine q_aload_n (n := 93) dX8_tellsPushes_92 rfl rfl ?_
        refine q_getJE (un (pM (σ 1) 2) t) (kI := 12) (n := 96) dX8_tellsPushes_93 rfl fX8_115 mi0 rfl rfl (by rw [om_s rfl, q_up_n (by omega), q_up_n (by omega)]; exact hps.2.2) ?_
        refine q_iconst (n := 97) dX8_tellsPushes_96 rfl (k := ?_)
        refine q_c3D (n := 100) dX8_tellsPushes_97 rfl (zX8_lowest _ _ _ _ _ ⟨by omega, by omega⟩ ⟨by omega, by omega⟩) vX8_lowest lX8_207 rfl rfl ?_
        refine q_lastore (n := 101) dX8_tellsPushes_100 rfl mi20 ⟨by omega, by omega⟩ ?_
        rw [om_up rfl]
        refine q_aload_n (n := 102) dX8_tellsPushes_101 rfl rfl ?_
        refine q_getR (n := 105) dX8_tellsPushes_102 rfl fX8_82 mi0 rfl ?_
        refine q_iconst (n := 106) dX8_tellsPushes_105 rfl (k := ?_)
        refine q_iload_n (n := 107) dX8_tellsPushes_106 rfl rfl ?_
        refine q_imulS (n := 108) dX8_tellsPushes_107 rfl ⟨by omega, by omega⟩ ?_
        refine q_iconst (n := 109) dX8_tellsPushes_108 rfl (k := ?_)
        refine q_iaddS (n := 110) dX8_tellsPushes_109 rfl ⟨by omega, by omega⟩ ?_
        refine q_aload_n (n := 111) dX8_tellsPushes_110 rfl rfl ?_
        refine q_getJE (pY (pM (σ 1) 2) (σ 1 0) (pM (σ 1) 4 v) t) (kI := 14) (n := 114) dX8_tellsPushes_111 rfl fX8_132 mi0 rfl rfl (by rw [om_s rfl, q_up_n (by omega), q_up_n (by omega), q_up_n (by omega)]; exact hps.2.1) ?_
        refine q_aload_n (n := 115) dX8_tellsPushes_114 rfl rfl ?_
        refine q_getJE (un (pM (σ 1) 2) t) (kI := 12) (n := 118) dX8_tellsPushes_115 rfl fX8_115 mi0 rfl rfl (by rw [om_s rfl, q_up_n (by omega), q_up_n (by omega), q_up_n (by omega)]; exact hps.2.2) ?_
        refine q_iconst (n := 119) dX8_tellsPushes_118 rfl (k := ?_)
        refine q_c3D (n := 122) dX8_tellsPushes_119 rfl (zX8_lowest _ _ _ _ _ ⟨by omega, by omega⟩ ⟨by omega, by omega⟩) vX8_lowest lX8_207 rfl rfl ?_
        refine q_lastore (n := 123) dX8_tellsPushes_122 rfl mi20 ⟨by omega, by omega⟩ ?_
        rw [om_up rfl]
        refine q_iinc (n := 126) dX8_tellsPushes_123 rfl (Nat.le_of_ble_eq_true rfl) rfl (q_nwid ⟨by omega, by omega⟩) (q_s1_s (q_s1_1 rfl)) ?_
        refine q_go (t := 7) dX8_tellsPushes_126 (by decide) ?_
        obtain ⟨⟨n1, n2⟩, n3, n4⟩ := @tn4 (pM (σ 1) 2) (σ 1 0) (pM (σ 1) 4 v) (pM (σ 1) 5 v) i (mF (pM (σ 1) 6 v) (pM (σ 1) 7 v) (σ 1 1)) h0
        rw [← ht] at n1 n2 n3 n4
        refine ih (i + 1) _ (by omega) (by omega) ?_ (fun j j0 j1 => ?_) (fun j j0 j1 => ?_)
        · rw [q_up_n (by omega), q_up_n (by omega), q_up_n (by omega), q_up_n (by omega), hfr 0 16 (by omega)]
          exact hm0
        · rw [q_up_n (by omega), q_up_n (by omega), q_up_n (by omega), q_up_n (by omega), hfr 9 j (by omega)]
          exact hm j j0 j1
        · by_cases e3 : j = 4 * i + 3
          · rw [e3, q_up_s, n4]
          · rw [q_up_n (fun z => e3 z.2)]
            by_cases e2 : j = 4 * i + 2
            · rw [e2, q_up_s, n3]
            · rw [q_up_n (fun z => e2 z.2)]
              by_cases e1 : j = 4 * i + 1
              · rw [e1, q_up_s, n2]
              · rw [q_up_n (fun z => e1 z.2)]
                by_cases e0 : j = 4 * i
                · rw [e0, q_up_s, n1]
                · rw [q_up_n (fun z => e0 z.2), hfr 20 j (by omega)]
                  exact hto j j0 (by omega)
set_option maxRecDepth 100000 in
theorem zX8_tellsPushes (v : Int) (σ s : q_S) (hI : IM σ) (hv : 0 ≤ v ∧ v < σ 1 2) (hb : balb (pM (σ 1) 2) (σ 1 1) (pM (σ 1) 6 v) (pM (σ 1) 7 v) = true) : q_Ct mX8_tellsPushes shM [.inr (.inr 0), .inl v] (ovM σ s) (fun r σ' => r = none ∧ (∃ s', σ' = ovM σ s' ∧ s' 0 16 = mC (pM (σ 1) 6 v) (pM (σ 1) 7 v) (σ 1 1) ∧ ∀ j, 0 ≤ j → j < 4 * mC (pM (σ 1) 6 v) (pM (σ 1) 7 v) (σ 1 1) → s' 20 j = (tnF (pM (σ 1) 2) (σ 1 0) (pM (σ 1) 4 v) (pM (σ 1) 5 v) (mF (pM (σ 1) 6 v) (pM (σ 1) 7 v) (σ 1 1))) j)) := by
  refine q_ct 1 (by decide) rfl rfl ?_
  show q_WP mX8_tellsPushes shM 0 [some (.inr (.inr 0)), some (.inl v), none] [] (ovM σ s) _
  have hn := hI.nt
  have hvv := hI.nv
  have hvt := hI.tie hv
  have hmc := mem_C hn hvt.2.2
  refine q_aload_n (n := 1) dX8_tellsPushes_0 rfl rfl ?_
  refine q_iload_n (n := 2) dX8_tellsPushes_1 rfl rfl ?_
  refine q_v1W (n := 5) dX8_tellsPushes_2 rfl (zX8_tellsThose v σ _ hI hv) vX8_tellsThose lX8_221 rfl rfl mi0 rfl (fun σ2 h2 => ?_)
  obtain ⟨s1, rfl, ⟨hm0, hm⟩, hfr1⟩ := h2
  · skip
    refine q_iconst (n := 6) dX8_tellsPushes_5 rfl (k := ?_)
    refine q_istore_n (n := 7) dX8_tellsPushes_6 rfl (Nat.le_of_ble_eq_true rfl) (q_s1_s (q_s1_1 rfl)) ?_
    exact lpX8_tp σ v hI hv hb (mC (pM (σ 1) 6 v) (pM (σ 1) 7 v) (σ 1 1)).toNat 0 s1 (by omega) (by decide) hm0 hm (fun j j0 j1 => by omega)
