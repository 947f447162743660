set_option maxRecDepth 100000 in
theorem zX8_field (x : Int) (σ s : q_S) (hI : IM σ) : q_Ct mX8_field shM [.inr (.inr 0), .inl x] (ovM σ s) (fun r σ' => ∃ z, r = some z ∧ (z = .inl ((oF x (pM (σ 1))).1) ∧ chM σ (oF x (pM (σ 1))) σ')) := by
  refine q_ct 1 (by decide) rfl rfl ?_
  show q_WP mX8_field shM 0 [some (.inr (.inr 0)), some (.inl x), none] [] (ovM σ s) _
  refine q_iload_n (n := 1) dX8_field_0 rfl rfl ?_
  refine q_i2l (n := 2) dX8_field_1 rfl ?_
  refine q_lconst (x := 1) (n := 3) dX8_field_2 rfl (k := ?_)
  refine q_ldc2 (x := 9) (n := 6) dX8_field_3 rfl kX8_139 (k := ?_)
  refine q_c3D (n := 9) dX8_field_6 rfl (zX8_in _ _ _ _ _) vX8_in lX8_13 rfl rfl ?_
  refine q_if_ne (n := 12) (t := 14) dX8_field_9 rfl (by decide) (fun h9 => ?_) (fun h9 => ?_)
  · have h9 := q_b1.mp h9
    have eo : oF x (pM (σ 1)) = (σ 1 0, q_up (pM (σ 1)) 1 0 x) := if_pos h9
    refine q_aload_n (n := 15) dX8_field_14 rfl rfl ?_
    refine q_v0U (n := 18) dX8_field_15 rfl (zX8_keeps σ _ hI) vX8_keeps lX8_141 rfl rfl mi0 rfl ?_
    refine q_aload_n (n := 19) dX8_field_18 rfl rfl ?_
    refine q_getR (n := 22) dX8_field_19 rfl fX8_23 mi0 rfl ?_
    refine q_iconst (n := 23) dX8_field_22 rfl (k := ?_)
    refine q_ialoadE (σ 1 0) (n := 24) dX8_field_23 rfl mi1 ⟨by omega, by omega⟩ (by rw [om_n rfl, kpM_1]) ?_
    refine q_istore_n (n := 25) dX8_field_24 rfl (Nat.le_of_ble_eq_true rfl) (q_s1_s (q_s1_1 rfl)) ?_
    refine q_aload_n (n := 26) dX8_field_25 rfl rfl ?_
    refine q_getR (n := 29) dX8_field_26 rfl fX8_23 mi0 rfl ?_
    refine q_iconst (n := 30) dX8_field_29 rfl (k := ?_)
    refine q_iload_n (n := 31) dX8_field_30 rfl rfl ?_
    refine q_iastore (n := 32) dX8_field_31 rfl mi1 ⟨by omega, by omega⟩ ?_
    rw [om_upn rfl]
    refine q_iload_n (n := 33) dX8_field_32 rfl rfl ?_
    refine q_iret dX8_field_33 rfl (fun _ => rfl) ?_
    refine ⟨_, rfl, by rw [eo], Or.inl ⟨?_, _, s, rfl, fun c hc => q_up_o hc, ?_, ?_⟩⟩
    · rw [eo]
      show 0 ≤ σ 1 0
      have := hI.fd
      omega
    · rw [eo, up_fn, kpM_1]
      exact c1_pE ⟨by decide, by decide⟩
    · intro t t0 t1
      rw [up_fn, kpM_1] at t1 ⊢
      have e1 : ¬ (1 : Int) = 0 := by decide
      have e2 : ¬ 51 + t = 0 := by omega
      dsimp only at t1 ⊢
      rw [if_neg e1] at t1
      rw [if_neg e2]
      exact hI.2.1 t t0 t1
  · have h9 := q_b0.mp h9
    have eo : oF x (pM (σ 1)) = (-1, pM (σ 1)) := if_neg h9
    refine q_iconst (n := 13) dX8_field_12 rfl (k := ?_)
    refine q_iret dX8_field_13 rfl (fun _ => rfl) ?_
    exact ⟨_, rfl, by rw [eo], Or.inr ⟨by rw [eo]; show (-1 : Int) < 0; decide, s, rfl⟩⟩
theorem oT_1 {ax ay bx by' cx cy : Int} {τ : q_S} (h : 0 ≤ τ 1 1) : (0 ≤ (oT ax ay bx by' cx cy τ).1 ↔ (((-20 ≤ ax ∧ ax ≤ 20) ∧ -20 ≤ ay ∧ ay ≤ 20) ∧ ((-20 ≤ bx ∧ bx ≤ 20) ∧ -20 ≤ by' ∧ by' ≤ 20) ∧ ((-20 ≤ cx ∧ cx ≤ 20) ∧ -20 ≤ cy ∧ cy ≤ 20)) ∧ ¬ ((ax = bx ∧ ay = by' ∨ ax = cx ∧ ay = cy) ∨ bx = cx ∧ by' = cy) ∧ τ 1 1 ≠ 8) := by
  unfold oT
  by_cases h1 : (((-20 ≤ ax ∧ ax ≤ 20) ∧ -20 ≤ ay ∧ ay ≤ 20) ∧ ((-20 ≤ bx ∧ bx ≤ 20) ∧ -20 ≤ by' ∧ by' ≤ 20) ∧ ((-20 ≤ cx ∧ cx ≤ 20) ∧ -20 ≤ cy ∧ cy ≤ 20))
  · rw [if_neg (fun z => z h1)]
    by_cases h2 : ((ax = bx ∧ ay = by' ∨ ax = cx ∧ ay = cy) ∨ bx = cx ∧ by' = cy)
    · rw [if_pos h2]
      exact ⟨fun z => absurd z (by show ¬ (0 : Int) ≤ -5; decide), fun z => absurd h2 z.2.1⟩
    · rw [if_neg h2]
      by_cases h3 : τ 1 1 = 8
      · rw [if_pos h3]
        exact ⟨fun z => absurd z (by show ¬ (0 : Int) ≤ -3; decide), fun z => absurd h3 z.2.2⟩
      · rw [if_neg h3]
        exact ⟨fun _ => ⟨h1, h2, h3⟩, fun _ => h⟩
  · rw [if_pos h1]
    exact ⟨fun z => absurd z (by show ¬ (0 : Int) ≤ -1; decide), fun z => absurd z.1 h1⟩
theorem oT_2 {ax ay bx by' cx cy : Int} {τ : q_S} (h1 : (((-20 ≤ ax ∧ ax ≤ 20) ∧ -20 ≤ ay ∧ ay ≤ 20) ∧ ((-20 ≤ bx ∧ bx ≤ 20) ∧ -20 ≤ by' ∧ by' ≤ 20) ∧ ((-20 ≤ cx ∧ cx ≤ 20) ∧ -20 ≤ cy ∧ cy ≤ 20))) (h2 : ¬ ((ax = bx ∧ ay = by' ∨ ax = cx ∧ ay = cy) ∨ bx = cx ∧ by' = cy)) (h3 : τ 1 1 ≠ 8) : oT ax ay bx by' cx cy τ = (τ 1 1, newT ax ay bx by' cx cy τ) := by
  unfold oT
  rw [if_neg (fun z => z h1), if_neg h2, if_neg h3]
set_option maxRecDepth 100000 in
theorem zX8_trackRefusal (ax ay bx by' cx cy : Int) (σ s : q_S) (hI : IM σ) : q_Ct mX8_trackRefusal shM [.inr (.inr 0), .inl ax, .inl ay, .inl bx, .inl by', .inl cx, .inl cy] (ovM σ s) (fun r σ' => r = some (.inl (if 0 ≤ (oT ax ay bx by' cx cy (pM (σ 1))).1 then 0 else (oT ax ay bx by' cx cy (pM (σ 1))).1)) ∧ σ' = ovM σ s) := by
  refine q_ct 0 (by decide) rfl rfl ?_
  show q_WP mX8_trackRefusal shM 0 [some (.inr (.inr 0)), some (.inl ax), some (.inl ay), some (.inl bx), some (.inl by'), some (.inl cx), some (.inl cy)] [] (ovM σ s) _
  have hn := hI.nt
  have h11 : pM (σ 1) 1 1 = σ 1 1 := rfl
  have h0 := @oT_1 ax ay bx by' cx cy (pM (σ 1)) (by omega)
  refine q_iload_n (n := 1) dX8_trackRefusal_0 rfl rfl ?_
  refine q_iload_n (n := 2) dX8_trackRefusal_1 rfl rfl ?_
  refine q_c2D (n := 5) dX8_trackRefusal_2 rfl (zX8_isGrid _ _ _ _) vX8_isGrid lX8_144 rfl rfl ?_
  refine q_if_eq (n := 8) (t := 27) dX8_trackRefusal_5 rfl (by decide) (fun h5 => ?_) (fun h5 => ?_)
  · have h5 := q_b0.mp h5
    refine q_iconst (n := 28) dX8_trackRefusal_27 rfl (k := ?_)
    refine q_iret dX8_trackRefusal_28 rfl (fun _ => rfl) ?_
    refine ⟨congrArg some (congrArg Sum.inl (Eq.symm ?_)), rfl⟩
    first
      | (rw [if_pos (h0.mpr ⟨⟨by assumption, by assumption, by assumption⟩, by omega, by omega⟩)]; done)
      | (have h1 : ¬ (((-20 ≤ ax ∧ ax ≤ 20) ∧ -20 ≤ ay ∧ ay ≤ 20) ∧ ((-20 ≤ bx ∧ bx ≤ 20) ∧ -20 ≤ by' ∧ by' ≤ 20) ∧ ((-20 ≤ cx ∧ cx ≤ 20) ∧ -20 ≤ cy ∧ cy ≤ 20)) := by
           intro z
           first | exact absurd z.1 (by assumption) | exact absurd z.2.1 (by assumption) | exact absurd z.2.2 (by assumption)
         rw [if_neg (fun z => h1 (h0.mp z).1)]
         unfold oT
         rw [if_pos h1]; done)
      | (have h1 : (((-20 ≤ ax ∧ ax ≤ 20) ∧ -20 ≤ ay ∧ ay ≤ 20) ∧ ((-20 ≤ bx ∧ bx ≤ 20) ∧ -20 ≤ by' ∧ by' ≤ 20) ∧ ((-20 ≤ cx ∧ cx ≤ 20) ∧ -20 ≤ cy ∧ cy ≤ 20)) := ⟨by assumption, by assumption, by assumption⟩
         have h2 : ((ax = bx ∧ ay = by' ∨ ax = cx ∧ ay = cy) ∨ bx = cx ∧ by' = cy) := by omega
         rw [if_neg (fun z => (h0.mp z).2.1 h2)]
         unfold oT
         rw [if_neg (fun z => z h1), if_pos h2]; done)
      | (have h1 : (((-20 ≤ ax ∧ ax ≤ 20) ∧ -20 ≤ ay ∧ ay ≤ 20) ∧ ((-20 ≤ bx ∧ bx ≤ 20) ∧ -20 ≤ by' ∧ by' ≤ 20) ∧ ((-20 ≤ cx ∧ cx ≤ 20) ∧ -20 ≤ cy ∧ cy ≤ 20)) := ⟨by assumption, by assumption, by assumption⟩
         have h2 : ¬ ((ax = bx ∧ ay = by' ∨ ax = cx ∧ ay = cy) ∨ bx = cx ∧ by' = cy) := by omega
         have h3 : pM (σ 1) 1 1 = 8 := by omega
         rw [if_neg (fun z => (h0.mp z).2.2 h3)]
         unfold oT
         rw [if_neg (fun z => z h1), if_neg h2, if_pos h3]; done)
  · have h5 := q_b1.mp h5
    refine q_iload_n (n := 9) dX8_trackRefusal_8 rfl rfl ?_
    refine q_iload (n := 11) dX8_trackRefusal_9 rfl rfl ?_
    refine q_c2D (n := 14) dX8_trackRefusal_11 rfl (zX8_isGrid _ _ _ _) vX8_isGrid lX8_144 rfl rfl ?_
    refine q_if_eq (n := 17) (t := 27) dX8_trackRefusal_14 rfl (by decide) (fun h14 => ?_) (fun h14 => ?_)
    · have h14 := q_b0.mp h14
      refine q_iconst (n := 28) dX8_trackRefusal_27 rfl (k := ?_)
      refine q_iret dX8_trackRefusal_28 rfl (fun _ => rfl) ?_
      refine ⟨congrArg some (congrArg Sum.inl (Eq.symm ?_)), rfl⟩
      first
        | (rw [if_pos (h0.mpr ⟨⟨by assumption, by assumption, by assumption⟩, by omega, by omega⟩)]; done)
        | (have h1 : ¬ (((-20 ≤ ax ∧ ax ≤ 20) ∧ -20 ≤ ay ∧ ay ≤ 20) ∧ ((-20 ≤ bx ∧ bx ≤ 20) ∧ -20 ≤ by' ∧ by' ≤ 20) ∧ ((-20 ≤ cx ∧ cx ≤ 20) ∧ -20 ≤ cy ∧ cy ≤ 20)) := by
             intro z
             first | exact absurd z.1 (by assumption) | exact absurd z.2.1 (by assumption) | exact absurd z.2.2 (by assumption)
           rw [if_neg (fun z => h1 (h0.mp z).1)]
           unfold oT
           rw [if_pos h1]; done)
        | (have h1 : (((-20 ≤ ax ∧ ax ≤ 20) ∧ -20 ≤ ay ∧ ay ≤ 20) ∧ ((-20 ≤ bx ∧ bx ≤ 20) ∧ -20 ≤ by' ∧ by' ≤ 20) ∧ ((-20 ≤ cx ∧ cx ≤ 20) ∧ -20 ≤ cy ∧ cy ≤ 20)) := ⟨by assumption, by assumption, by assumption⟩
           have h2 : ((ax = bx ∧ ay = by' ∨ ax = cx ∧ ay = cy) ∨ bx = cx ∧ by' = cy) := by omega
           rw [if_neg (fun z => (h0.mp z).2.1 h2)]
           unfold oT
           rw [if_neg (fun z => z h1), if_pos h2]; done)
        | (have h1 : (((-20 ≤ ax ∧ ax ≤ 20) ∧ -20 ≤ ay ∧ ay ≤ 20) ∧ ((-20 ≤ bx ∧ bx ≤ 20) ∧ -20 ≤ by' ∧ by' ≤ 20) ∧ ((-20 ≤ cx ∧ cx ≤ 20) ∧ -20 ≤ cy ∧ cy ≤ 20)) := ⟨by assumption, by assumption, by assumption⟩
           have h2 : ¬ ((ax = bx ∧ ay = by' ∨ ax = cx ∧ ay = cy) ∨ bx = cx ∧ by' = cy) := by omega
           have h3 : pM (σ 1) 1 1 = 8 := by omega
           rw [if_neg (fun z => (h0.mp z).2.2 h3)]
           unfold oT
           rw [if_neg (fun z => z h1), if_neg h2, if_pos h3]; done)
    · have h14 := q_b1.mp h14
      refine q_iload (n := 19) dX8_trackRefusal_17 rfl rfl ?_
      refine q_iload (n := 21) dX8_trackRefusal_19 rfl rfl ?_
      refine q_c2D (n := 24) dX8_trackRefusal_21 rfl (zX8_isGrid _ _ _ _) vX8_isGrid lX8_144 rfl rfl ?_
      refine q_if_ne (n := 27) (t := 29) dX8_trackRefusal_24 rfl (by decide) (fun h24 => ?_) (fun h24 => ?_)
      · have h24 := q_b1.mp h24
        refine q_iload_n (n := 30) dX8_trackRefusal_29 rfl rfl ?_
        refine q_iload_n (n := 31) dX8_trackRefusal_30 rfl rfl ?_
        refine q_icmp_ne (n := 34) (t := 40) dX8_trackRefusal_31 rfl (by decide) (fun h31 => ?_) (fun h31 => ?_)
        · skip
          refine q_iload_n (n := 41) dX8_trackRefusal_40 rfl rfl ?_
          refine q_iload (n := 43) dX8_trackRefusal_41 rfl rfl ?_
          refine q_icmp_ne (n := 46) (t := 52) dX8_trackRefusal_43 rfl (by decide) (fun h43 => ?_) (fun h43 => ?_)
          · skip
            refine q_iload_n (n := 53) dX8_trackRefusal_52 rfl rfl ?_
            refine q_iload (n := 55) dX8_trackRefusal_53 rfl rfl ?_
            refine q_icmp_ne (n := 58) (t := 68) dX8_trackRefusal_55 rfl (by decide) (fun h55 => ?_) (fun h55 => ?_)
            · skip
              refine q_aload_n (n := 69) dX8_trackRefusal_68 rfl rfl ?_
              refine q_getR (n := 72) dX8_trackRefusal_69 rfl fX8_23 mi0 rfl ?_
              refine q_iconst (n := 73) dX8_trackRefusal_72 rfl (k := ?_)
              refine q_ialoadF (σ 1) (n := 74) dX8_trackRefusal_73 rfl mi1 ⟨by omega, by omega⟩ rfl ?_
              refine q_bipush (n := 76) dX8_trackRefusal_74 rfl (k := ?_)
              refine q_icmp_ne (n := 79) (t := 84) dX8_trackRefusal_76 rfl (by decide) (fun h76 => ?_) (fun h76 => ?_)
              · skip
                refine q_iconst (n := 85) dX8_trackRefusal_84 rfl (k := ?_)
                refine q_iret dX8_trackRefusal_85 rfl (fun _ => rfl) ?_
                refine ⟨congrArg some (congrArg Sum.inl (Eq.symm ?_)), rfl⟩
                first
                  | (rw [if_pos (h0.mpr ⟨⟨by assumption, by assumption, by assumption⟩, by omega, by omega⟩)]; done)
                  | (have h1 : ¬ (((-20 ≤ ax ∧ ax ≤ 20) ∧ -20 ≤ ay ∧ ay ≤ 20) ∧ ((-20 ≤ bx ∧ bx ≤ 20) ∧ -20 ≤ by' ∧ by' ≤ 20) ∧ ((-20 ≤ cx ∧ cx ≤ 20) ∧ -20 ≤ cy ∧ cy ≤ 20)) := by
                       intro z
                       first | exact absurd z.1 (by assumption) | exact absurd z.2.1 (by assumption) | exact absurd z.2.2 (by assumption)
                     rw [if_neg (fun z => h1 (h0.mp z).1)]
                     unfold oT
                     rw [if_pos h1]; done)
                  | (have h1 : (((-20 ≤ ax ∧ ax ≤ 20) ∧ -20 ≤ ay ∧ ay ≤ 20) ∧ ((-20 ≤ bx ∧ bx ≤ 20) ∧ -20 ≤ by' ∧ by' ≤ 20) ∧ ((-20 ≤ cx ∧ cx ≤ 20) ∧ -20 ≤ cy ∧ cy ≤ 20)) := ⟨by assumption, by assumption, by assumption⟩
                     have h2 : ((ax = bx ∧ ay = by' ∨ ax = cx ∧ ay = cy) ∨ bx = cx ∧ by' = cy) := by omega
                     rw [if_neg (fun z => (h0.mp z).2.1 h2)]
                     unfold oT
                     rw [if_neg (fun z => z h1), if_pos h2]; done)
                  | (have h1 : (((-20 ≤ ax ∧ ax ≤ 20) ∧ -20 ≤ ay ∧ ay ≤ 20) ∧ ((-20 ≤ bx ∧ bx ≤ 20) ∧ -20 ≤ by' ∧ by' ≤ 20) ∧ ((-20 ≤ cx ∧ cx ≤ 20) ∧ -20 ≤ cy ∧ cy ≤ 20)) := ⟨by assumption, by assumption, by assumption⟩
                     have h2 : ¬ ((ax = bx ∧ ay = by' ∨ ax = cx ∧ ay = cy) ∨ bx = cx ∧ by' = cy) := by omega
                     have h3 : pM (σ 1) 1 1 = 8 := by omega
                     rw [if_neg (fun z => (h0.mp z).2.2 h3)]
                     unfold oT
                     rw [if_neg (fun z => z h1), if_neg h2, if_pos h3]; done)
              · skip
                refine q_bipush (n := 81) dX8_trackRefusal_79 rfl (k := ?_)
                refine q_go (t := 85) dX8_trackRefusal_81 (by decide) ?_
                refine q_iret dX8_trackRefusal_85 rfl (fun _ => rfl) ?_
                refine ⟨congrArg some (congrArg Sum.inl (Eq.symm ?_)), rfl⟩
                first
                  | (rw [if_pos (h0.mpr ⟨⟨by assumption, by assumption, by assumption⟩, by omega, by omega⟩)]; done)
                  | (have h1 : ¬ (((-20 ≤ ax ∧ ax ≤ 20) ∧ -20 ≤ ay ∧ ay ≤ 20) ∧ ((-20 ≤ bx ∧ bx ≤ 20) ∧ -20 ≤ by' ∧ by' ≤ 20) ∧ ((-20 ≤ cx ∧ cx ≤ 20) ∧ -20 ≤ cy ∧ cy ≤ 20)) := by
                       intro z
                       first | exact absurd z.1 (by assumption) | exact absurd z.2.1 (by assumption) | exact absurd z.2.2 (by assumption)
                     rw [if_neg (fun z => h1 (h0.mp z).1)]
                     unfold oT
                     rw [if_pos h1]; done)
                  | (have h1 : (((-20 ≤ ax ∧ ax ≤ 20) ∧ -20 ≤ ay ∧ ay ≤ 20) ∧ ((-20 ≤ bx ∧ bx ≤ 20) ∧ -20 ≤ by' ∧ by' ≤ 20) ∧ ((-20 ≤ cx ∧ cx ≤ 20) ∧ -20 ≤ cy ∧ cy ≤ 20)) := ⟨by assumption, by assumption, by assumption⟩
                     have h2 : ((ax = bx ∧ ay = by' ∨ ax = cx ∧ ay = cy) ∨ bx = cx ∧ by' = cy) := by omega
                     rw [if_neg (fun z => (h0.mp z).2.1 h2)]
                     unfold oT
                     rw [if_neg (fun z => z h1), if_pos h2]; done)
                  | (have h1 : (((-20 ≤ ax ∧ ax ≤ 20) ∧ -20 ≤ ay ∧ ay ≤ 20) ∧ ((-20 ≤ bx ∧ bx ≤ 20) ∧ -20 ≤ by' ∧ by' ≤ 20) ∧ ((-20 ≤ cx ∧ cx ≤ 20) ∧ -20 ≤ cy ∧ cy ≤ 20)) := ⟨by assumption, by assumption, by assumption⟩
                     have h2 : ¬ ((ax = bx ∧ ay = by' ∨ ax = cx ∧ ay = cy) ∨ bx = cx ∧ by' = cy) := by omega
                     have h3 : pM (σ 1) 1 1 = 8 := by omega
                     rw [if_neg (fun z => (h0.mp z).2.2 h3)]
                     unfold oT
                     rw [if_neg (fun z => z h1), if_neg h2, if_pos h3]; done)
            · skip
              refine q_iload (n := 60) dX8_trackRefusal_58 rfl rfl ?_
              refine q_iload (n := 62) dX8_trackRefusal_60 rfl rfl ?_
              refine q_icmp_ne (n := 65) (t := 68) dX8_trackRefusal_62 rfl (by decide) (fun h62 => ?_) (fun h62 => ?_)
              · skip
                refine q_aload_n (n := 69) dX8_trackRefusal_68 rfl rfl ?_
                refine q_getR (n := 72) dX8_trackRefusal_69 rfl fX8_23 mi0 rfl ?_
                refine q_iconst (n := 73) dX8_trackRefusal_72 rfl (k := ?_)
                refine q_ialoadF (σ 1) (n := 74) dX8_trackRefusal_73 rfl mi1 ⟨by omega, by omega⟩ rfl ?_
                refine q_bipush (n := 76) dX8_trackRefusal_74 rfl (k := ?_)
                refine q_icmp_ne (n := 79) (t := 84) dX8_trackRefusal_76 rfl (by decide) (fun h76 => ?_) (fun h76 => ?_)
                · skip
                  refine q_iconst (n := 85) dX8_trackRefusal_84 rfl (k := ?_)
                  refine q_iret dX8_trackRefusal_85 rfl (fun _ => rfl) ?_
                  refine ⟨congrArg some (congrArg Sum.inl (Eq.symm ?_)), rfl⟩
                  first
                    | (rw [if_pos (h0.mpr ⟨⟨by assumption, by assumption, by assumption⟩, by omega, by omega⟩)]; done)
                    | (have h1 : ¬ (((-20 ≤ ax ∧ ax ≤ 20) ∧ -20 ≤ ay ∧ ay ≤ 20) ∧ ((-20 ≤ bx ∧ bx ≤ 20) ∧ -20 ≤ by' ∧ by' ≤ 20) ∧ ((-20 ≤ cx ∧ cx ≤ 20) ∧ -20 ≤ cy ∧ cy ≤ 20)) := by
                         intro z
                         first | exact absurd z.1 (by assumption) | exact absurd z.2.1 (by assumption) | exact absurd z.2.2 (by assumption)
                       rw [if_neg (fun z => h1 (h0.mp z).1)]
                       unfold oT
                       rw [if_pos h1]; done)
                    | (have h1 : (((-20 ≤ ax ∧ ax ≤ 20) ∧ -20 ≤ ay ∧ ay ≤ 20) ∧ ((-20 ≤ bx ∧ bx ≤ 20) ∧ -20 ≤ by' ∧ by' ≤ 20) ∧ ((-20 ≤ cx ∧ cx ≤ 20) ∧ -20 ≤ cy ∧ cy ≤ 20)) := ⟨by assumption, by assumption, by assumption⟩
                       have h2 : ((ax = bx ∧ ay = by' ∨ ax = cx ∧ ay = cy) ∨ bx = cx ∧ by' = cy) := by omega
                       rw [if_neg (fun z => (h0.mp z).2.1 h2)]
                       unfold oT
                       rw [if_neg (fun z => z h1), if_pos h2]; done)
                    | (have h1 : (((-20 ≤ ax ∧ ax ≤ 20) ∧ -20 ≤ ay ∧ ay ≤ 20) ∧ ((-20 ≤ bx ∧ bx ≤ 20) ∧ -20 ≤ by' ∧ by' ≤ 20) ∧ ((-20 ≤ cx ∧ cx ≤ 20) ∧ -20 ≤ cy ∧ cy ≤ 20)) := ⟨by assumption, by assumption, by assumption⟩
                       have h2 : ¬ ((ax = bx ∧ ay = by' ∨ ax = cx ∧ ay = cy) ∨ bx = cx ∧ by' = cy) := by omega
                       have h3 : pM (σ 1) 1 1 = 8 := by omega
                       rw [if_neg (fun z => (h0.mp z).2.2 h3)]
                       unfold oT
                       rw [if_neg (fun z => z h1), if_neg h2, if_pos h3]; done)
                · skip
                  refine q_bipush (n := 81) dX8_trackRefusal_79 rfl (k := ?_)
                  refine q_go (t := 85) dX8_trackRefusal_81 (by decide) ?_
                  refine q_iret dX8_trackRefusal_85 rfl (fun _ => rfl) ?_
                  refine ⟨congrArg some (congrArg Sum.inl (Eq.symm ?_)), rfl⟩
                  first
                    | (rw [if_pos (h0.mpr ⟨⟨by assumption, by assumption, by assumption⟩, by omega, by omega⟩)]; done)
                    | (have h1 : ¬ (((-20 ≤ ax ∧ ax ≤ 20) ∧ -20 ≤ ay ∧ ay ≤ 20) ∧ ((-20 ≤ bx ∧ bx ≤ 20) ∧ -20 ≤ by' ∧ by' ≤ 20) ∧ ((-20 ≤ cx ∧ cx ≤ 20) ∧ -20 ≤ cy ∧ cy ≤ 20)) := by
                         intro z
                         first | exact absurd z.1 (by assumption) | exact absurd z.2.1 (by assumption) | exact absurd z.2.2 (by assumption)
                       rw [if_neg (fun z => h1 (h0.mp z).1)]
                       unfold oT
                       rw [if_pos h1]; done)
                    | (have h1 : (((-20 ≤ ax ∧ ax ≤ 20) ∧ -20 ≤ ay ∧ ay ≤ 20) ∧ ((-20 ≤ bx ∧ bx ≤ 20) ∧ -20 ≤ by' ∧ by' ≤ 20) ∧ ((-20 ≤ cx ∧ cx ≤ 20) ∧ -20 ≤ cy ∧ cy ≤ 20)) := ⟨by assumption, by assumption, by assumption⟩
                       have h2 : ((ax = bx ∧ ay = by' ∨ ax = cx ∧ ay = cy) ∨ bx = cx ∧ by' = cy) := by omega
                       rw [if_neg (fun z => (h0.mp z).2.1 h2)]
                       unfold oT
                       rw [if_neg (fun z => z h1), if_pos h2]; done)
                    | (have h1 : (((-20 ≤ ax ∧ ax ≤ 20) ∧ -20 ≤ ay ∧ ay ≤ 20) ∧ ((-20 ≤ bx ∧ bx ≤ 20) ∧ -20 ≤ by' ∧ by' ≤ 20) ∧ ((-20 ≤ cx ∧ cx ≤ 20) ∧ -20 ≤ cy ∧ cy ≤ 20)) := ⟨by assumption, by assumption, by assumption⟩
                       have h2 : ¬ ((ax = bx ∧ ay = by' ∨ ax = cx ∧ ay = cy) ∨ bx = cx ∧ by' = cy) := by omega
                       have h3 : pM (σ 1) 1 1 = 8 := by omega
                       rw [if_neg (fun z => (h0.mp z).2.2 h3)]
                       unfold oT
                       rw [if_neg (fun z => z h1), if_neg h2, if_pos h3]; done)
              · skip
                refine q_bipush (n := 67) dX8_trackRefusal_65 rfl (k := ?_)
                refine q_iret dX8_trackRefusal_67 rfl (fun _ => rfl) ?_
                refine ⟨congrArg some (congrArg Sum.inl (Eq.symm ?_)), rfl⟩
                first
                  | (rw [if_pos (h0.mpr ⟨⟨by assumption, by assumption, by assumption⟩, by omega, by omega⟩)]; done)
                  | (have h1 : ¬ (((-20 ≤ ax ∧ ax ≤ 20) ∧ -20 ≤ ay ∧ ay ≤ 20) ∧ ((-20 ≤ bx ∧ bx ≤ 20) ∧ -20 ≤ by' ∧ by' ≤ 20) ∧ ((-20 ≤ cx ∧ cx ≤ 20) ∧ -20 ≤ cy ∧ cy ≤ 20)) := by
                       intro z
                       first | exact absurd z.1 (by assumption) | exact absurd z.2.1 (by assumption) | exact absurd z.2.2 (by assumption)
                     rw [if_neg (fun z => h1 (h0.mp z).1)]
                     unfold oT
                     rw [if_pos h1]; done)
                  | (have h1 : (((-20 ≤ ax ∧ ax ≤ 20) ∧ -20 ≤ ay ∧ ay ≤ 20) ∧ ((-20 ≤ bx ∧ bx ≤ 20) ∧ -20 ≤ by' ∧ by' ≤ 20) ∧ ((-20 ≤ cx ∧ cx ≤ 20) ∧ -20 ≤ cy ∧ cy ≤ 20)) := ⟨by assumption, by assumption, by assumption⟩
                     have h2 : ((ax = bx ∧ ay = by' ∨ ax = cx ∧ ay = cy) ∨ bx = cx ∧ by' = cy) := by omega
                     rw [if_neg (fun z => (h0.mp z).2.1 h2)]
                     unfold oT
                     rw [if_neg (fun z => z h1), if_pos h2]; done)
                  | (have h1 : (((-20 ≤ ax ∧ ax ≤ 20) ∧ -20 ≤ ay ∧ ay ≤ 20) ∧ ((-20 ≤ bx ∧ bx ≤ 20) ∧ -20 ≤ by' ∧ by' ≤ 20) ∧ ((-20 ≤ cx ∧ cx ≤ 20) ∧ -20 ≤ cy ∧ cy ≤ 20)) := ⟨by assumption, by assumption, by assumption⟩
                     have h2 : ¬ ((ax = bx ∧ ay = by' ∨ ax = cx ∧ ay = cy) ∨ bx = cx ∧ by' = cy) := by omega
                     have h3 : pM (σ 1) 1 1 = 8 := by omega
                     rw [if_neg (fun z => (h0.mp z).2.2 h3)]
                     unfold oT
                     rw [if_neg (fun z => z h1), if_neg h2, if_pos h3]; done)
          · skip
            refine q_iload_n (n := 47) dX8_trackRefusal_46 rfl rfl ?_
            refine q_iload (n := 49) dX8_trackRefusal_47 rfl rfl ?_
            refine q_icmp_eq (n := 52) (t := 65) dX8_trackRefusal_49 rfl (by decide) (fun h49 => ?_) (fun h49 => ?_)
            · skip
              refine q_bipush (n := 67) dX8_trackRefusal_65 rfl (k := ?_)
              refine q_iret dX8_trackRefusal_67 rfl (fun _ => rfl) ?_
              refine ⟨congrArg some (congrArg Sum.inl (Eq.symm ?_)), rfl⟩
              first
                | (rw [if_pos (h0.mpr ⟨⟨by assumption, by assumption, by assumption⟩, by omega, by omega⟩)]; done)
                | (have h1 : ¬ (((-20 ≤ ax ∧ ax ≤ 20) ∧ -20 ≤ ay ∧ ay ≤ 20) ∧ ((-20 ≤ bx ∧ bx ≤ 20) ∧ -20 ≤ by' ∧ by' ≤ 20) ∧ ((-20 ≤ cx ∧ cx ≤ 20) ∧ -20 ≤ cy ∧ cy ≤ 20)) := by
                     intro z
                     first | exact absurd z.1 (by assumption) | exact absurd z.2.1 (by assumption) | exact absurd z.2.2 (by assumption)
                   rw [if_neg (fun z => h1 (h0.mp z).1)]
                   unfold oT
                   rw [if_pos h1]; done)
                | (have h1 : (((-20 ≤ ax ∧ ax ≤ 20) ∧ -20 ≤ ay ∧ ay ≤ 20) ∧ ((-20 ≤ bx ∧ bx ≤ 20) ∧ -20 ≤ by' ∧ by' ≤ 20) ∧ ((-20 ≤ cx ∧ cx ≤ 20) ∧ -20 ≤ cy ∧ cy ≤ 20)) := ⟨by assumption, by assumption, by assumption⟩
                   have h2 : ((ax = bx ∧ ay = by' ∨ ax = cx ∧ ay = cy) ∨ bx = cx ∧ by' = cy) := by omega
                   rw [if_neg (fun z => (h0.mp z).2.1 h2)]
                   unfold oT
                   rw [if_neg (fun z => z h1), if_pos h2]; done)
                | (have h1 : (((-20 ≤ ax ∧ ax ≤ 20) ∧ -20 ≤ ay ∧ ay ≤ 20) ∧ ((-20 ≤ bx ∧ bx ≤ 20) ∧ -20 ≤ by' ∧ by' ≤ 20) ∧ ((-20 ≤ cx ∧ cx ≤ 20) ∧ -20 ≤ cy ∧ cy ≤ 20)) := ⟨by assumption, by assumption, by assumption⟩
                   have h2 : ¬ ((ax = bx ∧ ay = by' ∨ ax = cx ∧ ay = cy) ∨ bx = cx ∧ by' = cy) := by omega
                   have h3 : pM (σ 1) 1 1 = 8 := by omega
                   rw [if_neg (fun z => (h0.mp z).2.2 h3)]
                   unfold oT
                   rw [if_neg (fun z => z h1), if_neg h2, if_pos h3]; done)
            · skip
              refine q_iload_n (n := 53) dX8_trackRefusal_52 rfl rfl ?_
              refine q_iload (n := 55) dX8_trackRefusal_53 rfl rfl ?_
              refine q_icmp_ne (n := 58) (t := 68) dX8_trackRefusal_55 rfl (by decide) (fun h55 => ?_) (fun h55 => ?_)
              · skip
                refine q_aload_n (n := 69) dX8_trackRefusal_68 rfl rfl ?_
                refine q_getR (n := 72) dX8_trackRefusal_69 rfl fX8_23 mi0 rfl ?_
                refine q_iconst (n := 73) dX8_trackRefusal_72 rfl (k := ?_)
                refine q_ialoadF (σ 1) (n := 74) dX8_trackRefusal_73 rfl mi1 ⟨by omega, by omega⟩ rfl ?_
                refine q_bipush (n := 76) dX8_trackRefusal_74 rfl (k := ?_)
                refine q_icmp_ne (n := 79) (t := 84) dX8_trackRefusal_76 rfl (by decide) (fun h76 => ?_) (fun h76 => ?_)
                · skip
                  refine q_iconst (n := 85) dX8_trackRefusal_84 rfl (k := ?_)
                  refine q_iret dX8_trackRefusal_85 rfl (fun _ => rfl) ?_
                  refine ⟨congrArg some (congrArg Sum.inl (Eq.symm ?_)), rfl⟩
                  first
                    | (rw [if_pos (h0.mpr ⟨⟨by assumption, by assumption, by assumption⟩, by omega, by omega⟩)]; done)
                    | (have h1 : ¬ (((-20 ≤ ax ∧ ax ≤ 20) ∧ -20 ≤ ay ∧ ay ≤ 20) ∧ ((-20 ≤ bx ∧ bx ≤ 20) ∧ -20 ≤ by' ∧ by' ≤ 20) ∧ ((-20 ≤ cx ∧ cx ≤ 20) ∧ -20 ≤ cy ∧ cy ≤ 20)) := by
                         intro z
                         first | exact absurd z.1 (by assumption) | exact absurd z.2.1 (by assumption) | exact absurd z.2.2 (by assumption)
                       rw [if_neg (fun z => h1 (h0.mp z).1)]
                       unfold oT
                       rw [if_pos h1]; done)
                    | (have h1 : (((-20 ≤ ax ∧ ax ≤ 20) ∧ -20 ≤ ay ∧ ay ≤ 20) ∧ ((-20 ≤ bx ∧ bx ≤ 20) ∧ -20 ≤ by' ∧ by' ≤ 20) ∧ ((-20 ≤ cx ∧ cx ≤ 20) ∧ -20 ≤ cy ∧ cy ≤ 20)) := ⟨by assumption, by assumption, by assumption⟩
                       have h2 : ((ax = bx ∧ ay = by' ∨ ax = cx ∧ ay = cy) ∨ bx = cx ∧ by' = cy) := by omega
                       rw [if_neg (fun z => (h0.mp z).2.1 h2)]
                       unfold oT
                       rw [if_neg (fun z => z h1), if_pos h2]; done)
                    | (have h1 : (((-20 ≤ ax ∧ ax ≤ 20) ∧ -20 ≤ ay ∧ ay ≤ 20) ∧ ((-20 ≤ bx ∧ bx ≤ 20) ∧ -20 ≤ by' ∧ by' ≤ 20) ∧ ((-20 ≤ cx ∧ cx ≤ 20) ∧ -20 ≤ cy ∧ cy ≤ 20)) := ⟨by assumption, by assumption, by assumption⟩
                       have h2 : ¬ ((ax = bx ∧ ay = by' ∨ ax = cx ∧ ay = cy) ∨ bx = cx ∧ by' = cy) := by omega
                       have h3 : pM (σ 1) 1 1 = 8 := by omega
                       rw [if_neg (fun z => (h0.mp z).2.2 h3)]
                       unfold oT
                       rw [if_neg (fun z => z h1), if_neg h2, if_pos h3]; done)
                · skip
                  refine q_bipush (n := 81) dX8_trackRefusal_79 rfl (k := ?_)
                  refine q_go (t := 85) dX8_trackRefusal_81 (by decide) ?_
                  refine q_iret dX8_trackRefusal_85 rfl (fun _ => rfl) ?_
                  refine ⟨congrArg some (congrArg Sum.inl (Eq.symm ?_)), rfl⟩
                  first
                    | (rw [if_pos (h0.mpr ⟨⟨by assumption, by assumption, by assumption⟩, by omega, by omega⟩)]; done)
                    | (have h1 : ¬ (((-20 ≤ ax ∧ ax ≤ 20) ∧ -20 ≤ ay ∧ ay ≤ 20) ∧ ((-20 ≤ bx ∧ bx ≤ 20) ∧ -20 ≤ by' ∧ by' ≤ 20) ∧ ((-20 ≤ cx ∧ cx ≤ 20) ∧ -20 ≤ cy ∧ cy ≤ 20)) := by
                         intro z
                         first | exact absurd z.1 (by assumption) | exact absurd z.2.1 (by assumption) | exact absurd z.2.2 (by assumption)
                       rw [if_neg (fun z => h1 (h0.mp z).1)]
                       unfold oT
                       rw [if_pos h1]; done)
                    | (have h1 : (((-20 ≤ ax ∧ ax ≤ 20) ∧ -20 ≤ ay ∧ ay ≤ 20) ∧ ((-20 ≤ bx ∧ bx ≤ 20) ∧ -20 ≤ by' ∧ by' ≤ 20) ∧ ((-20 ≤ cx ∧ cx ≤ 20) ∧ -20 ≤ cy ∧ cy ≤ 20)) := ⟨by assumption, by assumption, by assumption⟩
                       have h2 : ((ax = bx ∧ ay = by' ∨ ax = cx ∧ ay = cy) ∨ bx = cx ∧ by' = cy) := by omega
                       rw [if_neg (fun z => (h0.mp z).2.1 h2)]
                       unfold oT
                       rw [if_neg (fun z => z h1), if_pos h2]; done)
                    | (have h1 : (((-20 ≤ ax ∧ ax ≤ 20) ∧ -20 ≤ ay ∧ ay ≤ 20) ∧ ((-20 ≤ bx ∧ bx ≤ 20) ∧ -20 ≤ by' ∧ by' ≤ 20) ∧ ((-20 ≤ cx ∧ cx ≤ 20) ∧ -20 ≤ cy ∧ cy ≤ 20)) := ⟨by assumption, by assumption, by assumption⟩
                       have h2 : ¬ ((ax = bx ∧ ay = by' ∨ ax = cx ∧ ay = cy) ∨ bx = cx ∧ by' = cy) := by omega
                       have h3 : pM (σ 1) 1 1 = 8 := by omega
                       rw [if_neg (fun z => (h0.mp z).2.2 h3)]
                       unfold oT
                       rw [if_neg (fun z => z h1), if_neg h2, if_pos h3]; done)
              · skip
                refine q_iload (n := 60) dX8_trackRefusal_58 rfl rfl ?_
                refine q_iload (n := 62) dX8_trackRefusal_60 rfl rfl ?_
                refine q_icmp_ne (n := 65) (t := 68) dX8_trackRefusal_62 rfl (by decide) (fun h62 => ?_) (fun h62 => ?_)
                · skip
                  refine q_aload_n (n := 69) dX8_trackRefusal_68 rfl rfl ?_
                  refine q_getR (n := 72) dX8_trackRefusal_69 rfl fX8_23 mi0 rfl ?_
                  refine q_iconst (n := 73) dX8_trackRefusal_72 rfl (k := ?_)
                  refine q_ialoadF (σ 1) (n := 74) dX8_trackRefusal_73 rfl mi1 ⟨by omega, by omega⟩ rfl ?_
                  refine q_bipush (n := 76) dX8_trackRefusal_74 rfl (k := ?_)
                  refine q_icmp_ne (n := 79) (t := 84) dX8_trackRefusal_76 rfl (by decide) (fun h76 => ?_) (fun h76 => ?_)
                  · skip
                    refine q_iconst (n := 85) dX8_trackRefusal_84 rfl (k := ?_)
                    refine q_iret dX8_trackRefusal_85 rfl (fun _ => rfl) ?_
                    refine ⟨congrArg some (congrArg Sum.inl (Eq.symm ?_)), rfl⟩
                    first
                      | (rw [if_pos (h0.mpr ⟨⟨by assumption, by assumption, by assumption⟩, by omega, by omega⟩)]; done)
                      | (have h1 : ¬ (((-20 ≤ ax ∧ ax ≤ 20) ∧ -20 ≤ ay ∧ ay ≤ 20) ∧ ((-20 ≤ bx ∧ bx ≤ 20) ∧ -20 ≤ by' ∧ by' ≤ 20) ∧ ((-20 ≤ cx ∧ cx ≤ 20) ∧ -20 ≤ cy ∧ cy ≤ 20)) := by
                           intro z
                           first | exact absurd z.1 (by assumption) | exact absurd z.2.1 (by assumption) | exact absurd z.2.2 (by assumption)
                         rw [if_neg (fun z => h1 (h0.mp z).1)]
                         unfold oT
                         rw [if_pos h1]; done)
                      | (have h1 : (((-20 ≤ ax ∧ ax ≤ 20) ∧ -20 ≤ ay ∧ ay ≤ 20) ∧ ((-20 ≤ bx ∧ bx ≤ 20) ∧ -20 ≤ by' ∧ by' ≤ 20) ∧ ((-20 ≤ cx ∧ cx ≤ 20) ∧ -20 ≤ cy ∧ cy ≤ 20)) := ⟨by assumption, by assumption, by assumption⟩
                         have h2 : ((ax = bx ∧ ay = by' ∨ ax = cx ∧ ay = cy) ∨ bx = cx ∧ by' = cy) := by omega
                         rw [if_neg (fun z => (h0.mp z).2.1 h2)]
                         unfold oT
                         rw [if_neg (fun z => z h1), if_pos h2]; done)
                      | (have h1 : (((-20 ≤ ax ∧ ax ≤ 20) ∧ -20 ≤ ay ∧ ay ≤ 20) ∧ ((-20 ≤ bx ∧ bx ≤ 20) ∧ -20 ≤ by' ∧ by' ≤ 20) ∧ ((-20 ≤ cx ∧ cx ≤ 20) ∧ -20 ≤ cy ∧ cy ≤ 20)) := ⟨by assumption, by assumption, by assumption⟩
                         have h2 : ¬ ((ax = bx ∧ ay = by' ∨ ax = cx ∧ ay = cy) ∨ bx = cx ∧ by' = cy) := by omega
                         have h3 : pM (σ 1) 1 1 = 8 := by omega
                         rw [if_neg (fun z => (h0.mp z).2.2 h3)]
                         unfold oT
                         rw [if_neg (fun z => z h1), if_neg h2, if_pos h3]; done)
                  · skip
                    refine q_bipush (n := 81) dX8_trackRefusal_79 rfl (k := ?_)
                    refine q_go (t := 85) dX8_trackRefusal_81 (by decide) ?_
                    refine q_iret dX8_trackRefusal_85 rfl (fun _ => rfl) ?_
                    refine ⟨congrArg some (congrArg Sum.inl (Eq.symm ?_)), rfl⟩
                    first
                      | (rw [if_pos (h0.mpr ⟨⟨by assumption, by assumption, by assumption⟩, by omega, by omega⟩)]; done)
                      | (have h1 : ¬ (((-20 ≤ ax ∧ ax ≤ 20) ∧ -20 ≤ ay ∧ ay ≤ 20) ∧ ((-20 ≤ bx ∧ bx ≤ 20) ∧ -20 ≤ by' ∧ by' ≤ 20) ∧ ((-20 ≤ cx ∧ cx ≤ 20) ∧ -20 ≤ cy ∧ cy ≤ 20)) := by
                           intro z
                           first | exact absurd z.1 (by assumption) | exact absurd z.2.1 (by assumption) | exact absurd z.2.2 (by assumption)
                         rw [if_neg (fun z => h1 (h0.mp z).1)]
                         unfold oT
                         rw [if_pos h1]; done)
                      | (have h1 : (((-20 ≤ ax ∧ ax ≤ 20) ∧ -20 ≤ ay ∧ ay ≤ 20) ∧ ((-20 ≤ bx ∧ bx ≤ 20) ∧ -20 ≤ by' ∧ by' ≤ 20) ∧ ((-20 ≤ cx ∧ cx ≤ 20) ∧ -20 ≤ cy ∧ cy ≤ 20)) := ⟨by assumption, by assumption, by assumption⟩
                         have h2 : ((ax = bx ∧ ay = by' ∨ ax = cx ∧ ay = cy) ∨ bx = cx ∧ by' = cy) := by omega
                         rw [if_neg (fun z => (h0.mp z).2.1 h2)]
                         unfold oT
                         rw [if_neg (fun z => z h1), if_pos h2]; done)
                      | (have h1 : (((-20 ≤ ax ∧ ax ≤ 20) ∧ -20 ≤ ay ∧ ay ≤ 20) ∧ ((-20 ≤ bx ∧ bx ≤ 20) ∧ -20 ≤ by' ∧ by' ≤ 20) ∧ ((-20 ≤ cx ∧ cx ≤ 20) ∧ -20 ≤ cy ∧ cy ≤ 20)) := ⟨by assumption, by assumption, by assumption⟩
                         have h2 : ¬ ((ax = bx ∧ ay = by' ∨ ax = cx ∧ ay = cy) ∨ bx = cx ∧ by' = cy) := by omega
                         have h3 : pM (σ 1) 1 1 = 8 := by omega
                         rw [if_neg (fun z => (h0.mp z).2.2 h3)]
                         unfold oT
                         rw [if_neg (fun z => z h1), if_neg h2, if_pos h3]; done)
                · skip
                  refine q_bipush (n := 67) dX8_trackRefusal_65 rfl (k := ?_)
                  refine q_iret dX8_trackRefusal_67 rfl (fun _ => rfl) ?_
                  refine ⟨congrArg some (congrArg Sum.inl (Eq.symm ?_)), rfl⟩
                  first
                    | (rw [if_pos (h0.mpr ⟨⟨by assumption, by assumption, by assumption⟩, by omega, by omega⟩)]; done)
                    | (have h1 : ¬ (((-20 ≤ ax ∧ ax ≤ 20) ∧ -20 ≤ ay ∧ ay ≤ 20) ∧ ((-20 ≤ bx ∧ bx ≤ 20) ∧ -20 ≤ by' ∧ by' ≤ 20) ∧ ((-20 ≤ cx ∧ cx ≤ 20) ∧ -20 ≤ cy ∧ cy ≤ 20)) := by
                         intro z
                         first | exact absurd z.1 (by assumption) | exact absurd z.2.1 (by assumption) | exact absurd z.2.2 (by assumption)
                       rw [if_neg (fun z => h1 (h0.mp z).1)]
                       unfold oT
                       rw [if_pos h1]; done)
                    | (have h1 : (((-20 ≤ ax ∧ ax ≤ 20) ∧ -20 ≤ ay ∧ ay ≤ 20) ∧ ((-20 ≤ bx ∧ bx ≤ 20) ∧ -20 ≤ by' ∧ by' ≤ 20) ∧ ((-20 ≤ cx ∧ cx ≤ 20) ∧ -20 ≤ cy ∧ cy ≤ 20)) := ⟨by assumption, by assumption, by assumption⟩
                       have h2 : ((ax = bx ∧ ay = by' ∨ ax = cx ∧ ay = cy) ∨ bx = cx ∧ by' = cy) := by omega
                       rw [if_neg (fun z => (h0.mp z).2.1 h2)]
                       unfold oT
                       rw [if_neg (fun z => z h1), if_pos h2]; done)
                    | (have h1 : (((-20 ≤ ax ∧ ax ≤ 20) ∧ -20 ≤ ay ∧ ay ≤ 20) ∧ ((-20 ≤ bx ∧ bx ≤ 20) ∧ -20 ≤ by' ∧ by' ≤ 20) ∧ ((-20 ≤ cx ∧ cx ≤ 20) ∧ -20 ≤ cy ∧ cy ≤ 20)) := ⟨by assumption, by assumption, by assumption⟩
                       have h2 : ¬ ((ax = bx ∧ ay = by' ∨ ax = cx ∧ ay = cy) ∨ bx = cx ∧ by' = cy) := by omega
                       have h3 : pM (σ 1) 1 1 = 8 := by omega
                       rw [if_neg (fun z => (h0.mp z).2.2 h3)]
                       unfold oT
                       rw [if_neg (fun z => z h1), if_neg h2, if_pos h3]; done)
        · skip
          refine q_iload_n (n := 35) dX8_trackRefusal_34 rfl rfl ?_
          refine q_iload (n := 37) dX8_trackRefusal_35 rfl rfl ?_
          refine q_icmp_eq (n := 40) (t := 65) dX8_trackRefusal_37 rfl (by decide) (fun h37 => ?_) (fun h37 => ?_)
          · skip
            refine q_bipush (n := 67) dX8_trackRefusal_65 rfl (k := ?_)
            refine q_iret dX8_trackRefusal_67 rfl (fun _ => rfl) ?_
            refine ⟨congrArg some (congrArg Sum.inl (Eq.symm ?_)), rfl⟩
            first
              | (rw [if_pos (h0.mpr ⟨⟨by assumption, by assumption, by assumption⟩, by omega, by omega⟩)]; done)
              | (have h1 : ¬ (((-20 ≤ ax ∧ ax ≤ 20) ∧ -20 ≤ ay ∧ ay ≤ 20) ∧ ((-20 ≤ bx ∧ bx ≤ 20) ∧ -20 ≤ by' ∧ by' ≤ 20) ∧ ((-20 ≤ cx ∧ cx ≤ 20) ∧ -20 ≤ cy ∧ cy ≤ 20)) := by
                   intro z
                   first | exact absurd z.1 (by assumption) | exact absurd z.2.1 (by assumption) | exact absurd z.2.2 (by assumption)
                 rw [if_neg (fun z => h1 (h0.mp z).1)]
                 unfold oT
                 rw [if_pos h1]; done)
              | (have h1 : (((-20 ≤ ax ∧ ax ≤ 20) ∧ -20 ≤ ay ∧ ay ≤ 20) ∧ ((-20 ≤ bx ∧ bx ≤ 20) ∧ -20 ≤ by' ∧ by' ≤ 20) ∧ ((-20 ≤ cx ∧ cx ≤ 20) ∧ -20 ≤ cy ∧ cy ≤ 20)) := ⟨by assumption, by assumption, by assumption⟩
                 have h2 : ((ax = bx ∧ ay = by' ∨ ax = cx ∧ ay = cy) ∨ bx = cx ∧ by' = cy) := by omega
                 rw [if_neg (fun z => (h0.mp z).2.1 h2)]
                 unfold oT
                 rw [if_neg (fun z => z h1), if_pos h2]; done)
              | (have h1 : (((-20 ≤ ax ∧ ax ≤ 20) ∧ -20 ≤ ay ∧ ay ≤ 20) ∧ ((-20 ≤ bx ∧ bx ≤ 20) ∧ -20 ≤ by' ∧ by' ≤ 20) ∧ ((-20 ≤ cx ∧ cx ≤ 20) ∧ -20 ≤ cy ∧ cy ≤ 20)) := ⟨by assumption, by assumption, by assumption⟩
                 have h2 : ¬ ((ax = bx ∧ ay = by' ∨ ax = cx ∧ ay = cy) ∨ bx = cx ∧ by' = cy) := by omega
                 have h3 : pM (σ 1) 1 1 = 8 := by omega
                 rw [if_neg (fun z => (h0.mp z).2.2 h3)]
                 unfold oT
                 rw [if_neg (fun z => z h1), if_neg h2, if_pos h3]; done)
          · skip
            refine q_iload_n (n := 41) dX8_trackRefusal_40 rfl rfl ?_
            refine q_iload (n := 43) dX8_trackRefusal_41 rfl rfl ?_
            refine q_icmp_ne (n := 46) (t := 52) dX8_trackRefusal_43 rfl (by decide) (fun h43 => ?_) (fun h43 => ?_)
            · skip
              refine q_iload_n (n := 53) dX8_trackRefusal_52 rfl rfl ?_
              refine q_iload (n := 55) dX8_trackRefusal_53 rfl rfl ?_
              refine q_icmp_ne (n := 58) (t := 68) dX8_trackRefusal_55 rfl (by decide) (fun h55 => ?_) (fun h55 => ?_)
              · skip
                refine q_aload_n (n := 69) dX8_trackRefusal_68 rfl rfl ?_
                refine q_getR (n := 72) dX8_trackRefusal_69 rfl fX8_23 mi0 rfl ?_
                refine q_iconst (n := 73) dX8_trackRefusal_72 rfl (k := ?_)
                refine q_ialoadF (σ 1) (n := 74) dX8_trackRefusal_73 rfl mi1 ⟨by omega, by omega⟩ rfl ?_
                refine q_bipush (n := 76) dX8_trackRefusal_74 rfl (k := ?_)
                refine q_icmp_ne (n := 79) (t := 84) dX8_trackRefusal_76 rfl (by decide) (fun h76 => ?_) (fun h76 => ?_)
                · skip
                  refine q_iconst (n := 85) dX8_trackRefusal_84 rfl (k := ?_)
                  refine q_iret dX8_trackRefusal_85 rfl (fun _ => rfl) ?_
                  refine ⟨congrArg some (congrArg Sum.inl (Eq.symm ?_)), rfl⟩
                  first
                    | (rw [if_pos (h0.mpr ⟨⟨by assumption, by assumption, by assumption⟩, by omega, by omega⟩)]; done)
                    | (have h1 : ¬ (((-20 ≤ ax ∧ ax ≤ 20) ∧ -20 ≤ ay ∧ ay ≤ 20) ∧ ((-20 ≤ bx ∧ bx ≤ 20) ∧ -20 ≤ by' ∧ by' ≤ 20) ∧ ((-20 ≤ cx ∧ cx ≤ 20) ∧ -20 ≤ cy ∧ cy ≤ 20)) := by
                         intro z
                         first | exact absurd z.1 (by assumption) | exact absurd z.2.1 (by assumption) | exact absurd z.2.2 (by assumption)
                       rw [if_neg (fun z => h1 (h0.mp z).1)]
                       unfold oT
                       rw [if_pos h1]; done)
                    | (have h1 : (((-20 ≤ ax ∧ ax ≤ 20) ∧ -20 ≤ ay ∧ ay ≤ 20) ∧ ((-20 ≤ bx ∧ bx ≤ 20) ∧ -20 ≤ by' ∧ by' ≤ 20) ∧ ((-20 ≤ cx ∧ cx ≤ 20) ∧ -20 ≤ cy ∧ cy ≤ 20)) := ⟨by assumption, by assumption, by assumption⟩
                       have h2 : ((ax = bx ∧ ay = by' ∨ ax = cx ∧ ay = cy) ∨ bx = cx ∧ by' = cy) := by omega
                       rw [if_neg (fun z => (h0.mp z).2.1 h2)]
                       unfold oT
                       rw [if_neg (fun z => z h1), if_pos h2]; done)
                    | (have h1 : (((-20 ≤ ax ∧ ax ≤ 20) ∧ -20 ≤ ay ∧ ay ≤ 20) ∧ ((-20 ≤ bx ∧ bx ≤ 20) ∧ -20 ≤ by' ∧ by' ≤ 20) ∧ ((-20 ≤ cx ∧ cx ≤ 20) ∧ -20 ≤ cy ∧ cy ≤ 20)) := ⟨by assumption, by assumption, by assumption⟩
                       have h2 : ¬ ((ax = bx ∧ ay = by' ∨ ax = cx ∧ ay = cy) ∨ bx = cx ∧ by' = cy) := by omega
                       have h3 : pM (σ 1) 1 1 = 8 := by omega
                       rw [if_neg (fun z => (h0.mp z).2.2 h3)]
                       unfold oT
                       rw [if_neg (fun z => z h1), if_neg h2, if_pos h3]; done)
                · skip
                  refine q_bipush (n := 81) dX8_trackRefusal_79 rfl (k := ?_)
                  refine q_go (t := 85) dX8_trackRefusal_81 (by decide) ?_
                  refine q_iret dX8_trackRefusal_85 rfl (fun _ => rfl) ?_
                  refine ⟨congrArg some (congrArg Sum.inl (Eq.symm ?_)), rfl⟩
                  first
                    | (rw [if_pos (h0.mpr ⟨⟨by assumption, by assumption, by assumption⟩, by omega, by omega⟩)]; done)
                    | (have h1 : ¬ (((-20 ≤ ax ∧ ax ≤ 20) ∧ -20 ≤ ay ∧ ay ≤ 20) ∧ ((-20 ≤ bx ∧ bx ≤ 20) ∧ -20 ≤ by' ∧ by' ≤ 20) ∧ ((-20 ≤ cx ∧ cx ≤ 20) ∧ -20 ≤ cy ∧ cy ≤ 20)) := by
                         intro z
                         first | exact absurd z.1 (by assumption) | exact absurd z.2.1 (by assumption) | exact absurd z.2.2 (by assumption)
                       rw [if_neg (fun z => h1 (h0.mp z).1)]
                       unfold oT
                       rw [if_pos h1]; done)
                    | (have h1 : (((-20 ≤ ax ∧ ax ≤ 20) ∧ -20 ≤ ay ∧ ay ≤ 20) ∧ ((-20 ≤ bx ∧ bx ≤ 20) ∧ -20 ≤ by' ∧ by' ≤ 20) ∧ ((-20 ≤ cx ∧ cx ≤ 20) ∧ -20 ≤ cy ∧ cy ≤ 20)) := ⟨by assumption, by assumption, by assumption⟩
                       have h2 : ((ax = bx ∧ ay = by' ∨ ax = cx ∧ ay = cy) ∨ bx = cx ∧ by' = cy) := by omega
                       rw [if_neg (fun z => (h0.mp z).2.1 h2)]
                       unfold oT
                       rw [if_neg (fun z => z h1), if_pos h2]; done)
                    | (have h1 : (((-20 ≤ ax ∧ ax ≤ 20) ∧ -20 ≤ ay ∧ ay ≤ 20) ∧ ((-20 ≤ bx ∧ bx ≤ 20) ∧ -20 ≤ by' ∧ by' ≤ 20) ∧ ((-20 ≤ cx ∧ cx ≤ 20) ∧ -20 ≤ cy ∧ cy ≤ 20)) := ⟨by assumption, by assumption, by assumption⟩
                       have h2 : ¬ ((ax = bx ∧ ay = by' ∨ ax = cx ∧ ay = cy) ∨ bx = cx ∧ by' = cy) := by omega
                       have h3 : pM (σ 1) 1 1 = 8 := by omega
                       rw [if_neg (fun z => (h0.mp z).2.2 h3)]
                       unfold oT
                       rw [if_neg (fun z => z h1), if_neg h2, if_pos h3]; done)
              · skip
                refine q_iload (n := 60) dX8_trackRefusal_58 rfl rfl ?_
                refine q_iload (n := 62) dX8_trackRefusal_60 rfl rfl ?_
                refine q_icmp_ne (n := 65) (t := 68) dX8_trackRefusal_62 rfl (by decide) (fun h62 => ?_) (fun h62 => ?_)
                · skip
                  refine q_aload_n (n := 69) dX8_trackRefusal_68 rfl rfl ?_
                  refine q_getR (n := 72) dX8_trackRefusal_69 rfl fX8_23 mi0 rfl ?_
                  refine q_iconst (n := 73) dX8_trackRefusal_72 rfl (k := ?_)
                  refine q_ialoadF (σ 1) (n := 74) dX8_trackRefusal_73 rfl mi1 ⟨by omega, by omega⟩ rfl ?_
                  refine q_bipush (n := 76) dX8_trackRefusal_74 rfl (k := ?_)
                  refine q_icmp_ne (n := 79) (t := 84) dX8_trackRefusal_76 rfl (by decide) (fun h76 => ?_) (fun h76 => ?_)
                  · skip
                    refine q_iconst (n := 85) dX8_trackRefusal_84 rfl (k := ?_)
                    refine q_iret dX8_trackRefusal_85 rfl (fun _ => rfl) ?_
                    refine ⟨congrArg some (congrArg Sum.inl (Eq.symm ?_)), rfl⟩
                    first
                      | (rw [if_pos (h0.mpr ⟨⟨by assumption, by assumption, by assumption⟩, by omega, by omega⟩)]; done)
                      | (have h1 : ¬ (((-20 ≤ ax ∧ ax ≤ 20) ∧ -20 ≤ ay ∧ ay ≤ 20) ∧ ((-20 ≤ bx ∧ bx ≤ 20) ∧ -20 ≤ by' ∧ by' ≤ 20) ∧ ((-20 ≤ cx ∧ cx ≤ 20) ∧ -20 ≤ cy ∧ cy ≤ 20)) := by
                           intro z
                           first | exact absurd z.1 (by assumption) | exact absurd z.2.1 (by assumption) | exact absurd z.2.2 (by assumption)
                         rw [if_neg (fun z => h1 (h0.mp z).1)]
                         unfold oT
                         rw [if_pos h1]; done)
                      | (have h1 : (((-20 ≤ ax ∧ ax ≤ 20) ∧ -20 ≤ ay ∧ ay ≤ 20) ∧ ((-20 ≤ bx ∧ bx ≤ 20) ∧ -20 ≤ by' ∧ by' ≤ 20) ∧ ((-20 ≤ cx ∧ cx ≤ 20) ∧ -20 ≤ cy ∧ cy ≤ 20)) := ⟨by assumption, by assumption, by assumption⟩
                         have h2 : ((ax = bx ∧ ay = by' ∨ ax = cx ∧ ay = cy) ∨ bx = cx ∧ by' = cy) := by omega
                         rw [if_neg (fun z => (h0.mp z).2.1 h2)]
                         unfold oT
                         rw [if_neg (fun z => z h1), if_pos h2]; done)
                      | (have h1 : (((-20 ≤ ax ∧ ax ≤ 20) ∧ -20 ≤ ay ∧ ay ≤ 20) ∧ ((-20 ≤ bx ∧ bx ≤ 20) ∧ -20 ≤ by' ∧ by' ≤ 20) ∧ ((-20 ≤ cx ∧ cx ≤ 20) ∧ -20 ≤ cy ∧ cy ≤ 20)) := ⟨by assumption, by assumption, by assumption⟩
                         have h2 : ¬ ((ax = bx ∧ ay = by' ∨ ax = cx ∧ ay = cy) ∨ bx = cx ∧ by' = cy) := by omega
                         have h3 : pM (σ 1) 1 1 = 8 := by omega
                         rw [if_neg (fun z => (h0.mp z).2.2 h3)]
                         unfold oT
                         rw [if_neg (fun z => z h1), if_neg h2, if_pos h3]; done)
                  · skip
                    refine q_bipush (n := 81) dX8_trackRefusal_79 rfl (k := ?_)
                    refine q_go (t := 85) dX8_trackRefusal_81 (by decide) ?_
                    refine q_iret dX8_trackRefusal_85 rfl (fun _ => rfl) ?_
                    refine ⟨congrArg some (congrArg Sum.inl (Eq.symm ?_)), rfl⟩
                    first
                      | (rw [if_pos (h0.mpr ⟨⟨by assumption, by assumption, by assumption⟩, by omega, by omega⟩)]; done)
                      | (have h1 : ¬ (((-20 ≤ ax ∧ ax ≤ 20) ∧ -20 ≤ ay ∧ ay ≤ 20) ∧ ((-20 ≤ bx ∧ bx ≤ 20) ∧ -20 ≤ by' ∧ by' ≤ 20) ∧ ((-20 ≤ cx ∧ cx ≤ 20) ∧ -20 ≤ cy ∧ cy ≤ 20)) := by
                           intro z
                           first | exact absurd z.1 (by assumption) | exact absurd z.2.1 (by assumption) | exact absurd z.2.2 (by assumption)
                         rw [if_neg (fun z => h1 (h0.mp z).1)]
                         unfold oT
                         rw [if_pos h1]; done)
                      | (have h1 : (((-20 ≤ ax ∧ ax ≤ 20) ∧ -20 ≤ ay ∧ ay ≤ 20) ∧ ((-20 ≤ bx ∧ bx ≤ 20) ∧ -20 ≤ by' ∧ by' ≤ 20) ∧ ((-20 ≤ cx ∧ cx ≤ 20) ∧ -20 ≤ cy ∧ cy ≤ 20)) := ⟨by assumption, by assumption, by assumption⟩
                         have h2 : ((ax = bx ∧ ay = by' ∨ ax = cx ∧ ay = cy) ∨ bx = cx ∧ by' = cy) := by omega
                         rw [if_neg (fun z => (h0.mp z).2.1 h2)]
                         unfold oT
                         rw [if_neg (fun z => z h1), if_pos h2]; done)
                      | (have h1 : (((-20 ≤ ax ∧ ax ≤ 20) ∧ -20 ≤ ay ∧ ay ≤ 20) ∧ ((-20 ≤ bx ∧ bx ≤ 20) ∧ -20 ≤ by' ∧ by' ≤ 20) ∧ ((-20 ≤ cx ∧ cx ≤ 20) ∧ -20 ≤ cy ∧ cy ≤ 20)) := ⟨by assumption, by assumption, by assumption⟩
                         have h2 : ¬ ((ax = bx ∧ ay = by' ∨ ax = cx ∧ ay = cy) ∨ bx = cx ∧ by' = cy) := by omega
                         have h3 : pM (σ 1) 1 1 = 8 := by omega
                         rw [if_neg (fun z => (h0.mp z).2.2 h3)]
                         unfold oT
                         rw [if_neg (fun z => z h1), if_neg h2, if_pos h3]; done)
                · skip
                  refine q_bipush (n := 67) dX8_trackRefusal_65 rfl (k := ?_)
                  refine q_iret dX8_trackRefusal_67 rfl (fun _ => rfl) ?_
                  refine ⟨congrArg some (congrArg Sum.inl (Eq.symm ?_)), rfl⟩
                  first
                    | (rw [if_pos (h0.mpr ⟨⟨by assumption, by assumption, by assumption⟩, by omega, by omega⟩)]; done)
                    | (have h1 : ¬ (((-20 ≤ ax ∧ ax ≤ 20) ∧ -20 ≤ ay ∧ ay ≤ 20) ∧ ((-20 ≤ bx ∧ bx ≤ 20) ∧ -20 ≤ by' ∧ by' ≤ 20) ∧ ((-20 ≤ cx ∧ cx ≤ 20) ∧ -20 ≤ cy ∧ cy ≤ 20)) := by
                         intro z
                         first | exact absurd z.1 (by assumption) | exact absurd z.2.1 (by assumption) | exact absurd z.2.2 (by assumption)
                       rw [if_neg (fun z => h1 (h0.mp z).1)]
                       unfold oT
                       rw [if_pos h1]; done)
                    | (have h1 : (((-20 ≤ ax ∧ ax ≤ 20) ∧ -20 ≤ ay ∧ ay ≤ 20) ∧ ((-20 ≤ bx ∧ bx ≤ 20) ∧ -20 ≤ by' ∧ by' ≤ 20) ∧ ((-20 ≤ cx ∧ cx ≤ 20) ∧ -20 ≤ cy ∧ cy ≤ 20)) := ⟨by assumption, by assumption, by assumption⟩
                       have h2 : ((ax = bx ∧ ay = by' ∨ ax = cx ∧ ay = cy) ∨ bx = cx ∧ by' = cy) := by omega
                       rw [if_neg (fun z => (h0.mp z).2.1 h2)]
                       unfold oT
                       rw [if_neg (fun z => z h1), if_pos h2]; done)
                    | (have h1 : (((-20 ≤ ax ∧ ax ≤ 20) ∧ -20 ≤ ay ∧ ay ≤ 20) ∧ ((-20 ≤ bx ∧ bx ≤ 20) ∧ -20 ≤ by' ∧ by' ≤ 20) ∧ ((-20 ≤ cx ∧ cx ≤ 20) ∧ -20 ≤ cy ∧ cy ≤ 20)) := ⟨by assumption, by assumption, by assumption⟩
                       have h2 : ¬ ((ax = bx ∧ ay = by' ∨ ax = cx ∧ ay = cy) ∨ bx = cx ∧ by' = cy) := by omega
                       have h3 : pM (σ 1) 1 1 = 8 := by omega
                       rw [if_neg (fun z => (h0.mp z).2.2 h3)]
                       unfold oT
                       rw [if_neg (fun z => z h1), if_neg h2, if_pos h3]; done)
            · skip
              refine q_iload_n (n := 47) dX8_trackRefusal_46 rfl rfl ?_
              refine q_iload (n := 49) dX8_trackRefusal_47 rfl rfl ?_
              refine q_icmp_eq (n := 52) (t := 65) dX8_trackRefusal_49 rfl (by decide) (fun h49 => ?_) (fun h49 => ?_)
              · skip
                refine q_bipush (n := 67) dX8_trackRefusal_65 rfl (k := ?_)
                refine q_iret dX8_trackRefusal_67 rfl (fun _ => rfl) ?_
                refine ⟨congrArg some (congrArg Sum.inl (Eq.symm ?_)), rfl⟩
                first
                  | (rw [if_pos (h0.mpr ⟨⟨by assumption, by assumption, by assumption⟩, by omega, by omega⟩)]; done)
                  | (have h1 : ¬ (((-20 ≤ ax ∧ ax ≤ 20) ∧ -20 ≤ ay ∧ ay ≤ 20) ∧ ((-20 ≤ bx ∧ bx ≤ 20) ∧ -20 ≤ by' ∧ by' ≤ 20) ∧ ((-20 ≤ cx ∧ cx ≤ 20) ∧ -20 ≤ cy ∧ cy ≤ 20)) := by
                       intro z
                       first | exact absurd z.1 (by assumption) | exact absurd z.2.1 (by assumption) | exact absurd z.2.2 (by assumption)
                     rw [if_neg (fun z => h1 (h0.mp z).1)]
                     unfold oT
                     rw [if_pos h1]; done)
                  | (have h1 : (((-20 ≤ ax ∧ ax ≤ 20) ∧ -20 ≤ ay ∧ ay ≤ 20) ∧ ((-20 ≤ bx ∧ bx ≤ 20) ∧ -20 ≤ by' ∧ by' ≤ 20) ∧ ((-20 ≤ cx ∧ cx ≤ 20) ∧ -20 ≤ cy ∧ cy ≤ 20)) := ⟨by assumption, by assumption, by assumption⟩
                     have h2 : ((ax = bx ∧ ay = by' ∨ ax = cx ∧ ay = cy) ∨ bx = cx ∧ by' = cy) := by omega
                     rw [if_neg (fun z => (h0.mp z).2.1 h2)]
                     unfold oT
                     rw [if_neg (fun z => z h1), if_pos h2]; done)
                  | (have h1 : (((-20 ≤ ax ∧ ax ≤ 20) ∧ -20 ≤ ay ∧ ay ≤ 20) ∧ ((-20 ≤ bx ∧ bx ≤ 20) ∧ -20 ≤ by' ∧ by' ≤ 20) ∧ ((-20 ≤ cx ∧ cx ≤ 20) ∧ -20 ≤ cy ∧ cy ≤ 20)) := ⟨by assumption, by assumption, by assumption⟩
                     have h2 : ¬ ((ax = bx ∧ ay = by' ∨ ax = cx ∧ ay = cy) ∨ bx = cx ∧ by' = cy) := by omega
                     have h3 : pM (σ 1) 1 1 = 8 := by omega
                     rw [if_neg (fun z => (h0.mp z).2.2 h3)]
                     unfold oT
                     rw [if_neg (fun z => z h1), if_neg h2, if_pos h3]; done)
              · skip
                refine q_iload_n (n := 53) dX8_trackRefusal_52 rfl rfl ?_
                refine q_iload (n := 55) dX8_trackRefusal_53 rfl rfl ?_
                refine q_icmp_ne (n := 58) (t := 68) dX8_trackRefusal_55 rfl (by decide) (fun h55 => ?_) (fun h55 => ?_)
                · skip
                  refine q_aload_n (n := 69) dX8_trackRefusal_68 rfl rfl ?_
                  refine q_getR (n := 72) dX8_trackRefusal_69 rfl fX8_23 mi0 rfl ?_
                  refine q_iconst (n := 73) dX8_trackRefusal_72 rfl (k := ?_)
                  refine q_ialoadF (σ 1) (n := 74) dX8_trackRefusal_73 rfl mi1 ⟨by omega, by omega⟩ rfl ?_
                  refine q_bipush (n := 76) dX8_trackRefusal_74 rfl (k := ?_)
                  refine q_icmp_ne (n := 79) (t := 84) dX8_trackRefusal_76 rfl (by decide) (fun h76 => ?_) (fun h76 => ?_)
                  · skip
                    refine q_iconst (n := 85) dX8_trackRefusal_84 rfl (k := ?_)
                    refine q_iret dX8_trackRefusal_85 rfl (fun _ => rfl) ?_
                    refine ⟨congrArg some (congrArg Sum.inl (Eq.symm ?_)), rfl⟩
                    first
                      | (rw [if_pos (h0.mpr ⟨⟨by assumption, by assumption, by assumption⟩, by omega, by omega⟩)]; done)
                      | (have h1 : ¬ (((-20 ≤ ax ∧ ax ≤ 20) ∧ -20 ≤ ay ∧ ay ≤ 20) ∧ ((-20 ≤ bx ∧ bx ≤ 20) ∧ -20 ≤ by' ∧ by' ≤ 20) ∧ ((-20 ≤ cx ∧ cx ≤ 20) ∧ -20 ≤ cy ∧ cy ≤ 20)) := by
                           intro z
                           first | exact absurd z.1 (by assumption) | exact absurd z.2.1 (by assumption) | exact absurd z.2.2 (by assumption)
                         rw [if_neg (fun z => h1 (h0.mp z).1)]
                         unfold oT
                         rw [if_pos h1]; done)
                      | (have h1 : (((-20 ≤ ax ∧ ax ≤ 20) ∧ -20 ≤ ay ∧ ay ≤ 20) ∧ ((-20 ≤ bx ∧ bx ≤ 20) ∧ -20 ≤ by' ∧ by' ≤ 20) ∧ ((-20 ≤ cx ∧ cx ≤ 20) ∧ -20 ≤ cy ∧ cy ≤ 20)) := ⟨by assumption, by assumption, by assumption⟩
                         have h2 : ((ax = bx ∧ ay = by' ∨ ax = cx ∧ ay = cy) ∨ bx = cx ∧ by' = cy) := by omega
                         rw [if_neg (fun z => (h0.mp z).2.1 h2)]
                         unfold oT
                         rw [if_neg (fun z => z h1), if_pos h2]; done)
                      | (have h1 : (((-20 ≤ ax ∧ ax ≤ 20) ∧ -20 ≤ ay ∧ ay ≤ 20) ∧ ((-20 ≤ bx ∧ bx ≤ 20) ∧ -20 ≤ by' ∧ by' ≤ 20) ∧ ((-20 ≤ cx ∧ cx ≤ 20) ∧ -20 ≤ cy ∧ cy ≤ 20)) := ⟨by assumption, by assumption, by assumption⟩
                         have h2 : ¬ ((ax = bx ∧ ay = by' ∨ ax = cx ∧ ay = cy) ∨ bx = cx ∧ by' = cy) := by omega
                         have h3 : pM (σ 1) 1 1 = 8 := by omega
                         rw [if_neg (fun z => (h0.mp z).2.2 h3)]
                         unfold oT
                         rw [if_neg (fun z => z h1), if_neg h2, if_pos h3]; done)
                  · skip
                    refine q_bipush (n := 81) dX8_trackRefusal_79 rfl (k := ?_)
                    refine q_go (t := 85) dX8_trackRefusal_81 (by decide) ?_
                    refine q_iret dX8_trackRefusal_85 rfl (fun _ => rfl) ?_
                    refine ⟨congrArg some (congrArg Sum.inl (Eq.symm ?_)), rfl⟩
                    first
                      | (rw [if_pos (h0.mpr ⟨⟨by assumption, by assumption, by assumption⟩, by omega, by omega⟩)]; done)
                      | (have h1 : ¬ (((-20 ≤ ax ∧ ax ≤ 20) ∧ -20 ≤ ay ∧ ay ≤ 20) ∧ ((-20 ≤ bx ∧ bx ≤ 20) ∧ -20 ≤ by' ∧ by' ≤ 20) ∧ ((-20 ≤ cx ∧ cx ≤ 20) ∧ -20 ≤ cy ∧ cy ≤ 20)) := by
                           intro z
                           first | exact absurd z.1 (by assumption) | exact absurd z.2.1 (by assumption) | exact absurd z.2.2 (by assumption)
                         rw [if_neg (fun z => h1 (h0.mp z).1)]
                         unfold oT
                         rw [if_pos h1]; done)
                      | (have h1 : (((-20 ≤ ax ∧ ax ≤ 20) ∧ -20 ≤ ay ∧ ay ≤ 20) ∧ ((-20 ≤ bx ∧ bx ≤ 20) ∧ -20 ≤ by' ∧ by' ≤ 20) ∧ ((-20 ≤ cx ∧ cx ≤ 20) ∧ -20 ≤ cy ∧ cy ≤ 20)) := ⟨by assumption, by assumption, by assumption⟩
                         have h2 : ((ax = bx ∧ ay = by' ∨ ax = cx ∧ ay = cy) ∨ bx = cx ∧ by' = cy) := by omega
                         rw [if_neg (fun z => (h0.mp z).2.1 h2)]
                         unfold oT
                         rw [if_neg (fun z => z h1), if_pos h2]; done)
                      | (have h1 : (((-20 ≤ ax ∧ ax ≤ 20) ∧ -20 ≤ ay ∧ ay ≤ 20) ∧ ((-20 ≤ bx ∧ bx ≤ 20) ∧ -20 ≤ by' ∧ by' ≤ 20) ∧ ((-20 ≤ cx ∧ cx ≤ 20) ∧ -20 ≤ cy ∧ cy ≤ 20)) := ⟨by assumption, by assumption, by assumption⟩
                         have h2 : ¬ ((ax = bx ∧ ay = by' ∨ ax = cx ∧ ay = cy) ∨ bx = cx ∧ by' = cy) := by omega
                         have h3 : pM (σ 1) 1 1 = 8 := by omega
                         rw [if_neg (fun z => (h0.mp z).2.2 h3)]
                         unfold oT
                         rw [if_neg (fun z => z h1), if_neg h2, if_pos h3]; done)
                · skip
                  refine q_iload (n := 60) dX8_trackRefusal_58 rfl rfl ?_
                  refine q_iload (n := 62) dX8_trackRefusal_60 rfl rfl ?_
                  refine q_icmp_ne (n := 65) (t := 68) dX8_trackRefusal_62 rfl (by decide) (fun h62 => ?_) (fun h62 => ?_)
                  · skip
                    refine q_aload_n (n := 69) dX8_trackRefusal_68 rfl rfl ?_
                    refine q_getR (n := 72) dX8_trackRefusal_69 rfl fX8_23 mi0 rfl ?_
                    refine q_iconst (n := 73) dX8_trackRefusal_72 rfl (k := ?_)
                    refine q_ialoadF (σ 1) (n := 74) dX8_trackRefusal_73 rfl mi1 ⟨by omega, by omega⟩ rfl ?_
                    refine q_bipush (n := 76) dX8_trackRefusal_74 rfl (k := ?_)
                    refine q_icmp_ne (n := 79) (t := 84) dX8_trackRefusal_76 rfl (by decide) (fun h76 => ?_) (fun h76 => ?_)
                    · skip
                      refine q_iconst (n := 85) dX8_trackRefusal_84 rfl (k := ?_)
                      refine q_iret dX8_trackRefusal_85 rfl (fun _ => rfl) ?_
                      refine ⟨congrArg some (congrArg Sum.inl (Eq.symm ?_)), rfl⟩
                      first
                        | (rw [if_pos (h0.mpr ⟨⟨by assumption, by assumption, by assumption⟩, by omega, by omega⟩)]; done)
                        | (have h1 : ¬ (((-20 ≤ ax ∧ ax ≤ 20) ∧ -20 ≤ ay ∧ ay ≤ 20) ∧ ((-20 ≤ bx ∧ bx ≤ 20) ∧ -20 ≤ by' ∧ by' ≤ 20) ∧ ((-20 ≤ cx ∧ cx ≤ 20) ∧ -20 ≤ cy ∧ cy ≤ 20)) := by
                             intro z
                             first | exact absurd z.1 (by assumption) | exact absurd z.2.1 (by assumption) | exact absurd z.2.2 (by assumption)
                           rw [if_neg (fun z => h1 (h0.mp z).1)]
                           unfold oT
                           rw [if_pos h1]; done)
                        | (have h1 : (((-20 ≤ ax ∧ ax ≤ 20) ∧ -20 ≤ ay ∧ ay ≤ 20) ∧ ((-20 ≤ bx ∧ bx ≤ 20) ∧ -20 ≤ by' ∧ by' ≤ 20) ∧ ((-20 ≤ cx ∧ cx ≤ 20) ∧ -20 ≤ cy ∧ cy ≤ 20)) := ⟨by assumption, by assumption, by assumption⟩
                           have h2 : ((ax = bx ∧ ay = by' ∨ ax = cx ∧ ay = cy) ∨ bx = cx ∧ by' = cy) := by omega
                           rw [if_neg (fun z => (h0.mp z).2.1 h2)]
                           unfold oT
                           rw [if_neg (fun z => z h1), if_pos h2]; done)
                        | (have h1 : (((-20 ≤ ax ∧ ax ≤ 20) ∧ -20 ≤ ay ∧ ay ≤ 20) ∧ ((-20 ≤ bx ∧ bx ≤ 20) ∧ -20 ≤ by' ∧ by' ≤ 20) ∧ ((-20 ≤ cx ∧ cx ≤ 20) ∧ -20 ≤ cy ∧ cy ≤ 20)) := ⟨by assumption, by assumption, by assumption⟩
                           have h2 : ¬ ((ax = bx ∧ ay = by' ∨ ax = cx ∧ ay = cy) ∨ bx = cx ∧ by' = cy) := by omega
                           have h3 : pM (σ 1) 1 1 = 8 := by omega
                           rw [if_neg (fun z => (h0.mp z).2.2 h3)]
                           unfold oT
                           rw [if_neg (fun z => z h1), if_neg h2, if_pos h3]; done)
                    · skip
                      refine q_bipush (n := 81) dX8_trackRefusal_79 rfl (k := ?_)
                      refine q_go (t := 85) dX8_trackRefusal_81 (by decide) ?_
                      refine q_iret dX8_trackRefusal_85 rfl (fun _ => rfl) ?_
                      refine ⟨congrArg some (congrArg Sum.inl (Eq.symm ?_)), rfl⟩
                      first
                        | (rw [if_pos (h0.mpr ⟨⟨by assumption, by assumption, by assumption⟩, by omega, by omega⟩)]; done)
                        | (have h1 : ¬ (((-20 ≤ ax ∧ ax ≤ 20) ∧ -20 ≤ ay ∧ ay ≤ 20) ∧ ((-20 ≤ bx ∧ bx ≤ 20) ∧ -20 ≤ by' ∧ by' ≤ 20) ∧ ((-20 ≤ cx ∧ cx ≤ 20) ∧ -20 ≤ cy ∧ cy ≤ 20)) := by
                             intro z
                             first | exact absurd z.1 (by assumption) | exact absurd z.2.1 (by assumption) | exact absurd z.2.2 (by assumption)
                           rw [if_neg (fun z => h1 (h0.mp z).1)]
                           unfold oT
                           rw [if_pos h1]; done)
                        | (have h1 : (((-20 ≤ ax ∧ ax ≤ 20) ∧ -20 ≤ ay ∧ ay ≤ 20) ∧ ((-20 ≤ bx ∧ bx ≤ 20) ∧ -20 ≤ by' ∧ by' ≤ 20) ∧ ((-20 ≤ cx ∧ cx ≤ 20) ∧ -20 ≤ cy ∧ cy ≤ 20)) := ⟨by assumption, by assumption, by assumption⟩
                           have h2 : ((ax = bx ∧ ay = by' ∨ ax = cx ∧ ay = cy) ∨ bx = cx ∧ by' = cy) := by omega
                           rw [if_neg (fun z => (h0.mp z).2.1 h2)]
                           unfold oT
                           rw [if_neg (fun z => z h1), if_pos h2]; done)
                        | (have h1 : (((-20 ≤ ax ∧ ax ≤ 20) ∧ -20 ≤ ay ∧ ay ≤ 20) ∧ ((-20 ≤ bx ∧ bx ≤ 20) ∧ -20 ≤ by' ∧ by' ≤ 20) ∧ ((-20 ≤ cx ∧ cx ≤ 20) ∧ -20 ≤ cy ∧ cy ≤ 20)) := ⟨by assumption, by assumption, by assumption⟩
                           have h2 : ¬ ((ax = bx ∧ ay = by' ∨ ax = cx ∧ ay = cy) ∨ bx = cx ∧ by' = cy) := by omega
                           have h3 : pM (σ 1) 1 1 = 8 := by omega
                           rw [if_neg (fun z => (h0.mp z).2.2 h3)]
                           unfold oT
                           rw [if_neg (fun z => z h1), if_neg h2, if_pos h3]; done)
                  · skip
                    refine q_bipush (n := 67) dX8_trackRefusal_65 rfl (k := ?_)
                    refine q_iret dX8_trackRefusal_67 rfl (fun _ => rfl) ?_
                    refine ⟨congrArg some (congrArg Sum.inl (Eq.symm ?_)), rfl⟩
                    first
                      | (rw [if_pos (h0.mpr ⟨⟨by assumption, by assumption, by assumption⟩, by omega, by omega⟩)]; done)
                      | (have h1 : ¬ (((-20 ≤ ax ∧ ax ≤ 20) ∧ -20 ≤ ay ∧ ay ≤ 20) ∧ ((-20 ≤ bx ∧ bx ≤ 20) ∧ -20 ≤ by' ∧ by' ≤ 20) ∧ ((-20 ≤ cx ∧ cx ≤ 20) ∧ -20 ≤ cy ∧ cy ≤ 20)) := by
                           intro z
                           first | exact absurd z.1 (by assumption) | exact absurd z.2.1 (by assumption) | exact absurd z.2.2 (by assumption)
                         rw [if_neg (fun z => h1 (h0.mp z).1)]
                         unfold oT
                         rw [if_pos h1]; done)
                      | (have h1 : (((-20 ≤ ax ∧ ax ≤ 20) ∧ -20 ≤ ay ∧ ay ≤ 20) ∧ ((-20 ≤ bx ∧ bx ≤ 20) ∧ -20 ≤ by' ∧ by' ≤ 20) ∧ ((-20 ≤ cx ∧ cx ≤ 20) ∧ -20 ≤ cy ∧ cy ≤ 20)) := ⟨by assumption, by assumption, by assumption⟩
                         have h2 : ((ax = bx ∧ ay = by' ∨ ax = cx ∧ ay = cy) ∨ bx = cx ∧ by' = cy) := by omega
                         rw [if_neg (fun z => (h0.mp z).2.1 h2)]
                         unfold oT
                         rw [if_neg (fun z => z h1), if_pos h2]; done)
                      | (have h1 : (((-20 ≤ ax ∧ ax ≤ 20) ∧ -20 ≤ ay ∧ ay ≤ 20) ∧ ((-20 ≤ bx ∧ bx ≤ 20) ∧ -20 ≤ by' ∧ by' ≤ 20) ∧ ((-20 ≤ cx ∧ cx ≤ 20) ∧ -20 ≤ cy ∧ cy ≤ 20)) := ⟨by assumption, by assumption, by assumption⟩
                         have h2 : ¬ ((ax = bx ∧ ay = by' ∨ ax = cx ∧ ay = cy) ∨ bx = cx ∧ by' = cy) := by omega
                         have h3 : pM (σ 1) 1 1 = 8 := by omega
                         rw [if_neg (fun z => (h0.mp z).2.2 h3)]
                         unfold oT
                         rw [if_neg (fun z => z h1), if_neg h2, if_pos h3]; done)
      · have h24 := q_b0.mp h24
        refine q_iconst (n := 28) dX8_trackRefusal_27 rfl (k := ?_)
        refine q_iret dX8_trackRefusal_28 rfl (fun _ => rfl) ?_
        refine ⟨congrArg some (congrArg Sum.inl (Eq.symm ?_)), rfl⟩
        first
          | (rw [if_pos (h0.mpr ⟨⟨by assumption, by assumption, by assumption⟩, by omega, by omega⟩)]; done)
          | (have h1 : ¬ (((-20 ≤ ax ∧ ax ≤ 20) ∧ -20 ≤ ay ∧ ay ≤ 20) ∧ ((-20 ≤ bx ∧ bx ≤ 20) ∧ -20 ≤ by' ∧ by' ≤ 20) ∧ ((-20 ≤ cx ∧ cx ≤ 20) ∧ -20 ≤ cy ∧ cy ≤ 20)) := by
               intro z
               first | exact absurd z.1 (by assumption) | exact absurd z.2.1 (by assumption) | exact absurd z.2.2 (by assumption)
             rw [if_neg (fun z => h1 (h0.mp z).1)]
             unfold oT
             rw [if_pos h1]; done)
          | (have h1 : (((-20 ≤ ax ∧ ax ≤ 20) ∧ -20 ≤ ay ∧ ay ≤ 20) ∧ ((-20 ≤ bx ∧ bx ≤ 20) ∧ -20 ≤ by' ∧ by' ≤ 20) ∧ ((-20 ≤ cx ∧ cx ≤ 20) ∧ -20 ≤ cy ∧ cy ≤ 20)) := ⟨by assumption, by assumption, by assumption⟩
             have h2 : ((ax = bx ∧ ay = by' ∨ ax = cx ∧ ay = cy) ∨ bx = cx ∧ by' = cy) := by omega
             rw [if_neg (fun z => (h0.mp z).2.1 h2)]
             unfold oT
             rw [if_neg (fun z => z h1), if_pos h2]; done)
          | (have h1 : (((-20 ≤ ax ∧ ax ≤ 20) ∧ -20 ≤ ay ∧ ay ≤ 20) ∧ ((-20 ≤ bx ∧ bx ≤ 20) ∧ -20 ≤ by' ∧ by' ≤ 20) ∧ ((-20 ≤ cx ∧ cx ≤ 20) ∧ -20 ≤ cy ∧ cy ≤ 20)) := ⟨by assumption, by assumption, by assumption⟩
             have h2 : ¬ ((ax = bx ∧ ay = by' ∨ ax = cx ∧ ay = cy) ∨ bx = cx ∧ by' = cy) := by omega
             have h3 : pM (σ 1) 1 1 = 8 := by omega
             rw [if_neg (fun z => (h0.mp z).2.2 h3)]
             unfold oT
             rw [if_neg (fun z => z h1), if_neg h2, if_pos h3]; done)
set_option maxRecDepth 100000 in
theorem zX8_trackComes (ax ay bx by' cx cy : Int) (σ s : q_S) (hn : 0 ≤ σ 1 1 ∧ σ 1 1 ≤ 7) : q_Ct mX8_trackComes shM [.inr (.inr 0), .inl ax, .inl ay, .inl bx, .inl by', .inl cx, .inl cy] (ovM σ s) (fun r σ' => r = none ∧ σ' = ovM (tcM ax ay bx by' cx cy σ) s) := by
  refine q_ct 1 (by decide) rfl rfl ?_
  show q_WP mX8_trackComes shM 0 [some (.inr (.inr 0)), some (.inl ax), some (.inl ay), some (.inl bx), some (.inl by'), some (.inl cx), some (.inl cy), none] [] (ovM σ s) _
  refine q_iconst (n := 1) dX8_trackComes_0 rfl (k := ?_)
  refine q_bipush (n := 3) dX8_trackComes_1 rfl (k := ?_)
  refine q_aload_n (n := 4) dX8_trackComes_3 rfl rfl ?_
  refine q_getR (n := 7) dX8_trackComes_4 rfl fX8_23 mi0 rfl ?_
  refine q_iconst (n := 8) dX8_trackComes_7 rfl (k := ?_)
  refine q_ialoadF (σ 1) (n := 9) dX8_trackComes_8 rfl mi1 ⟨by omega, by omega⟩ rfl ?_
  refine q_imulS (n := 10) dX8_trackComes_9 rfl ⟨by omega, by omega⟩ ?_
  refine q_iaddS (n := 11) dX8_trackComes_10 rfl ⟨by omega, by omega⟩ ?_
  refine q_istore (n := 13) dX8_trackComes_11 rfl (Nat.le_of_ble_eq_true rfl) (q_s1_s (q_s1_s (q_s1_s (q_s1_s (q_s1_s (q_s1_s (q_s1_1 rfl))))))) ?_
  refine q_aload_n (n := 14) dX8_trackComes_13 rfl rfl ?_
  refine q_getR (n := 17) dX8_trackComes_14 rfl fX8_23 mi0 rfl ?_
  refine q_iload (n := 19) dX8_trackComes_17 rfl rfl ?_
  refine q_iload_n (n := 20) dX8_trackComes_19 rfl rfl ?_
  refine q_iastore (n := 21) dX8_trackComes_20 rfl mi1 ⟨by omega, by omega⟩ ?_
  rw [om_upn rfl]
  refine q_aload_n (n := 22) dX8_trackComes_21 rfl rfl ?_
  refine q_getR (n := 25) dX8_trackComes_22 rfl fX8_23 mi0 rfl ?_
  refine q_iload (n := 27) dX8_trackComes_25 rfl rfl ?_
  refine q_iconst (n := 28) dX8_trackComes_27 rfl (k := ?_)
  refine q_iaddS (n := 29) dX8_trackComes_28 rfl ⟨by omega, by omega⟩ ?_
  refine q_iload_n (n := 30) dX8_trackComes_29 rfl rfl ?_
  refine q_iastore (n := 31) dX8_trackComes_30 rfl mi1 ⟨by omega, by omega⟩ ?_
  rw [om_upn rfl]
  refine q_aload_n (n := 32) dX8_trackComes_31 rfl rfl ?_
  refine q_getR (n := 35) dX8_trackComes_32 rfl fX8_23 mi0 rfl ?_
  refine q_iload (n := 37) dX8_trackComes_35 rfl rfl ?_
  refine q_iconst (n := 38) dX8_trackComes_37 rfl (k := ?_)
  refine q_iaddS (n := 39) dX8_trackComes_38 rfl ⟨by omega, by omega⟩ ?_
  refine q_iload_n (n := 40) dX8_trackComes_39 rfl rfl ?_
  refine q_iastore (n := 41) dX8_trackComes_40 rfl mi1 ⟨by omega, by omega⟩ ?_
  refine q_aload_n (n := 42) dX8_trackComes_41 rfl rfl ?_
  rw [om_upn rfl]
  refine q_getR (n := 45) dX8_trackComes_42 rfl fX8_23 mi0 rfl ?_
  refine q_iload (n := 47) dX8_trackComes_45 rfl rfl ?_
  refine q_iconst (n := 48) dX8_trackComes_47 rfl (k := ?_)
  refine q_iaddS (n := 49) dX8_trackComes_48 rfl ⟨by omega, by omega⟩ ?_
  refine q_iload (n := 51) dX8_trackComes_49 rfl rfl ?_
  refine q_iastore (n := 52) dX8_trackComes_51 rfl mi1 ⟨by omega, by omega⟩ ?_
  refine q_aload_n (n := 53) dX8_trackComes_52 rfl rfl ?_
  rw [om_upn rfl]
  refine q_getR (n := 56) dX8_trackComes_53 rfl fX8_23 mi0 rfl ?_
  refine q_iload (n := 58) dX8_trackComes_56 rfl rfl ?_
  refine q_iconst (n := 59) dX8_trackComes_58 rfl (k := ?_)
  refine q_iaddS (n := 60) dX8_trackComes_59 rfl ⟨by omega, by omega⟩ ?_
  refine q_iload (n := 62) dX8_trackComes_60 rfl rfl ?_
  refine q_iastore (n := 63) dX8_trackComes_62 rfl mi1 ⟨by omega, by omega⟩ ?_
  refine q_aload_n (n := 64) dX8_trackComes_63 rfl rfl ?_
  rw [om_upn rfl]
  refine q_getR (n := 67) dX8_trackComes_64 rfl fX8_23 mi0 rfl ?_
  refine q_iload (n := 69) dX8_trackComes_67 rfl rfl ?_
  refine q_iconst (n := 70) dX8_trackComes_69 rfl (k := ?_)
  refine q_iaddS (n := 71) dX8_trackComes_70 rfl ⟨by omega, by omega⟩ ?_
  refine q_iload (n := 73) dX8_trackComes_71 rfl rfl ?_
  refine q_iastore (n := 74) dX8_trackComes_73 rfl mi1 ⟨by omega, by omega⟩ ?_
  refine q_aload_n (n := 75) dX8_trackComes_74 rfl rfl ?_
  rw [om_upn rfl]
  refine q_getR (n := 78) dX8_trackComes_75 rfl fX8_23 mi0 rfl ?_
  refine q_bipush (n := 80) dX8_trackComes_78 rfl (k := ?_)
  refine q_aload_n (n := 81) dX8_trackComes_80 rfl rfl ?_
  refine q_getR (n := 84) dX8_trackComes_81 rfl fX8_23 mi0 rfl ?_
  refine q_iconst (n := 85) dX8_trackComes_84 rfl (k := ?_)
  refine q_ialoadE (σ 1 1) (n := 86) dX8_trackComes_85 rfl mi1 ⟨by omega, by omega⟩ (by rw [om_n rfl, q_up_n (by omega), q_up_n (by omega), q_up_n (by omega), q_up_n (by omega), q_up_n (by omega), q_up_n (by omega)]) ?_
  refine q_iaddS (n := 87) dX8_trackComes_86 rfl ⟨by omega, by omega⟩ ?_
  refine q_iconst (n := 88) dX8_trackComes_87 rfl (k := ?_)
  refine q_iastore (n := 89) dX8_trackComes_88 rfl mi1 ⟨by omega, by omega⟩ ?_
  rw [om_upn rfl]
  refine q_aload_n (n := 90) dX8_trackComes_89 rfl rfl ?_
  refine q_getR (n := 93) dX8_trackComes_90 rfl fX8_23 mi0 rfl ?_
  refine q_iconst (n := 94) dX8_trackComes_93 rfl (k := ?_)
  refine q_dup2 (n := 95) dX8_trackComes_94 rfl rfl rfl ?_
  refine q_ialoadE (σ 1 1) (n := 96) dX8_trackComes_95 rfl mi1 ⟨by omega, by omega⟩ (by rw [om_n rfl, q_up_n (by omega), q_up_n (by omega), q_up_n (by omega), q_up_n (by omega), q_up_n (by omega), q_up_n (by omega), q_up_n (by omega)]) ?_
  refine q_iconst (n := 97) dX8_trackComes_96 rfl (k := ?_)
  refine q_iaddS (n := 98) dX8_trackComes_97 rfl ⟨by omega, by omega⟩ ?_
  refine q_iastore (n := 99) dX8_trackComes_98 rfl mi1 ⟨by omega, by omega⟩ ?_
  rw [om_upn rfl]
  refine q_vret dX8_trackComes_99 rfl ?_
  exact ⟨rfl, rfl⟩
set_option maxRecDepth 100000 in
theorem zX8_track (ax ay bx by' cx cy : Int) (σ s : q_S) (hI : IM σ) : q_Ct mX8_track shM [.inr (.inr 0), .inl ax, .inl ay, .inl bx, .inl by', .inl cx, .inl cy] (ovM σ s) (fun r σ' => ∃ z, r = some z ∧ (z = .inl ((oT ax ay bx by' cx cy (pM (σ 1))).1) ∧ chM σ (oT ax ay bx by' cx cy (pM (σ 1))) σ')) := by
  refine q_ct 1 (by decide) rfl rfl ?_
  show q_WP mX8_track shM 0 [some (.inr (.inr 0)), some (.inl ax), some (.inl ay), some (.inl bx), some (.inl by'), some (.inl cx), some (.inl cy), none] [] (ovM σ s) _
  have hn := hI.nt
  have h11 : pM (σ 1) 1 1 = σ 1 1 := rfl
  have h0 := @oT_1 ax ay bx by' cx cy (pM (σ 1)) (by omega)
  have ek : kpM σ 1 1 = σ 1 1 := kpM_o (by decide) (by decide)
  refine q_aload_n (n := 1) dX8_track_0 rfl rfl ?_
  refine q_iload_n (n := 2) dX8_track_1 rfl rfl ?_
  refine q_iload_n (n := 3) dX8_track_2 rfl rfl ?_
  refine q_iload_n (n := 4) dX8_track_3 rfl rfl ?_
  refine q_iload (n := 6) dX8_track_4 rfl rfl ?_
  refine q_iload (n := 8) dX8_track_6 rfl rfl ?_
  refine q_iload (n := 10) dX8_track_8 rfl rfl ?_
  refine q_v6D (n := 13) dX8_track_10 rfl (zX8_trackRefusal ax ay bx by' cx cy σ _ hI) vX8_trackRefusal lX8_148 rfl rfl mi0 rfl ?_
  refine q_istore (n := 15) dX8_track_13 rfl (Nat.le_of_ble_eq_true rfl) (q_s1_s (q_s1_s (q_s1_s (q_s1_s (q_s1_s (q_s1_s (q_s1_1 rfl))))))) ?_
  refine q_iload (n := 17) dX8_track_15 rfl rfl ?_
  refine q_if_eq (n := 20) (t := 23) dX8_track_17 rfl (by decide) (fun h17 => ?_) (fun h17 => ?_)
  · have hp : 0 ≤ (oT ax ay bx by' cx cy (pM (σ 1))).1 := by
      by_cases z : 0 ≤ (oT ax ay bx by' cx cy (pM (σ 1))).1
      · exact z
      · rw [if_neg z] at h17
        omega
    obtain ⟨g1, g2, g3⟩ := h0.mp hp
    have eo := oT_2 (τ := pM (σ 1)) g1 g2 g3
    refine q_aload_n (n := 24) dX8_track_23 rfl rfl ?_
    refine q_v0U (n := 27) dX8_track_24 rfl (zX8_keeps σ _ hI) vX8_keeps lX8_141 rfl rfl mi0 rfl ?_
    refine q_aload_n (n := 28) dX8_track_27 rfl rfl ?_
    refine q_iload_n (n := 29) dX8_track_28 rfl rfl ?_
    refine q_iload_n (n := 30) dX8_track_29 rfl rfl ?_
    refine q_iload_n (n := 31) dX8_track_30 rfl rfl ?_
    refine q_iload (n := 33) dX8_track_31 rfl rfl ?_
    refine q_iload (n := 35) dX8_track_33 rfl rfl ?_
    refine q_iload (n := 37) dX8_track_35 rfl rfl ?_
    refine q_v6U (n := 40) dX8_track_37 rfl (zX8_trackComes ax ay bx by' cx cy (kpM σ) _ ⟨by omega, by omega⟩) vX8_trackComes lX8_152 rfl rfl mi0 rfl ?_
    refine q_aload_n (n := 41) dX8_track_40 rfl rfl ?_
    refine q_getR (n := 44) dX8_track_41 rfl fX8_23 mi0 rfl ?_
    refine q_iconst (n := 45) dX8_track_44 rfl (k := ?_)
    refine q_ialoadE (σ 1 1 + 1) (n := 46) dX8_track_45 rfl mi1 ⟨by omega, by omega⟩ (by rw [om_n rfl, ← ek]; exact q_up_s) ?_
    refine q_iconst (n := 47) dX8_track_46 rfl (k := ?_)
    refine q_isubS (n := 48) dX8_track_47 rfl ⟨by omega, by omega⟩ ?_
    refine q_iret dX8_track_48 rfl (fun _ => rfl) ?_
    refine ⟨_, rfl, congrArg Sum.inl ?_, Or.inl ⟨hp, _, s, rfl, fun c hc => ?_, ?_, ?_⟩⟩
    · rw [eo, Int.add_sub_cancel]
      rfl
    · unfold tcM
      rw [q_up_o hc, q_up_o hc, q_up_o hc, q_up_o hc, q_up_o hc, q_up_o hc, q_up_o hc, q_up_o hc]
    · rw [eo]
      have h := tcM_pE (ax := ax) (ay := ay) (bx := bx) (by' := by') (cx := cx) (cy := cy) (σ := kpM σ) ⟨by omega, by omega⟩
      rw [kpM_1] at h
      exact h
    · exact tcM_KR ⟨by omega, by omega⟩ (by rw [kpM_1]; exact hI.2.1)
  · have hp : ¬ 0 ≤ (oT ax ay bx by' cx cy (pM (σ 1))).1 := fun z => h17 (if_pos z)
    refine q_iload (n := 22) dX8_track_20 rfl rfl ?_
    refine q_iret dX8_track_22 rfl (fun _ => rfl) ?_
    exact ⟨_, rfl, congrArg Sum.inl (if_neg hp), Or.inr ⟨by omega, s, rfl⟩⟩
theorem oK_c {t k : Int} {τ : q_S} (h : ∀ j : Int, 0 ≤ j → j < τ 1 1 → 0 ≤ τ 3 j) : ((¬ (0 ≤ t ∧ t < τ 1 1) ∨ ¬ (k = -1 ∨ 0 ≤ k ∧ k < 12)) ∧ oK t k τ = (-1, τ)) ∨ (((0 ≤ t ∧ t < τ 1 1) ∧ (k = -1 ∨ 0 ≤ k ∧ k < 12)) ∧ (k ≠ -1 ∧ num k 0 ≠ sgn (lB (τ 2) (6 * t))) ∧ oK t k τ = (-5, τ)) ∨ (((0 ≤ t ∧ t < τ 1 1) ∧ (k = -1 ∨ 0 ≤ k ∧ k < 12)) ∧ ¬ (k ≠ -1 ∧ num k 0 ≠ sgn (lB (τ 2) (6 * t))) ∧ oK t k τ = (τ 3 t, q_up τ 3 t (if k = -1 then 12 else k)) ∧ 0 ≤ τ 3 t) := by
  unfold oK
  by_cases h1 : ¬ (0 ≤ t ∧ t < τ 1 1) ∨ ¬ (k = -1 ∨ 0 ≤ k ∧ k < 12)
  · exact Or.inl ⟨h1, if_pos h1⟩
  · have hb : (0 ≤ t ∧ t < τ 1 1) ∧ (k = -1 ∨ 0 ≤ k ∧ k < 12) := by omega
    rw [if_neg h1]
    by_cases h2 : k ≠ -1 ∧ num k 0 ≠ sgn (lB (τ 2) (6 * t))
    · exact Or.inr (Or.inl ⟨hb, h2, if_pos h2⟩)
    · exact Or.inr (Or.inr ⟨hb, h2, if_neg h2, h t hb.1.1 hb.1.2⟩)
set_option maxRecDepth 100000 in
theorem zX8_kindRefusal (t k : Int) (σ s : q_S) (hI : IM σ) : q_Ct mX8_kindRefusal shM [.inr (.inr 0), .inl t, .inl k] (ovM σ s) (fun r σ' => r = some (.inl (if 0 ≤ (oK t k (pM (σ 1))).1 then 0 else (oK t k (pM (σ 1))).1)) ∧ σ' = ovM σ s) := by
  refine q_ct 0 (by decide) rfl rfl ?_
  show q_WP mX8_kindRefusal shM 0 [some (.inr (.inr 0)), some (.inl t), some (.inl k)] [] (ovM σ s) _
  have hn := hI.nt
  have h11 : pM (σ 1) 1 1 = σ 1 1 := rfl
  have hc := @oK_c t k (pM (σ 1)) (fun j a b => (hI.kd ⟨a, b⟩).1)
  refine q_aload_n (n := 1) dX8_kindRefusal_0 rfl rfl ?_
  refine q_iload_n (n := 2) dX8_kindRefusal_1 rfl rfl ?_
  refine q_v1D (n := 5) dX8_kindRefusal_2 rfl (zX8_isTrack _ σ _ hn) vX8_isTrack lX8_156 rfl rfl mi0 rfl ?_
  refine q_if_eq (n := 8) (t := 22) dX8_kindRefusal_5 rfl (by decide) (fun h5 => ?_) (fun h5 => ?_)
  · have h5 := q_b0.mp h5
    refine q_iconst (n := 23) dX8_kindRefusal_22 rfl (k := ?_)
    refine q_iret dX8_kindRefusal_23 rfl (fun _ => rfl) ?_
    refine ⟨congrArg some (congrArg Sum.inl (Eq.symm ?_)), rfl⟩
    rcases hc with ⟨c1, c2⟩ | ⟨c1, c2, c3⟩ | ⟨c1, c2, c3, c4⟩
    · rw [c2]
      first
        | exact if_neg (by show ¬ (0 : Int) ≤ -1; decide)
        | (exfalso; omega)
    · rw [c3]
      first
        | (exfalso; omega)
        | exact if_neg (by show ¬ (0 : Int) ≤ -5; decide)
    · rw [c3]
      first
        | (exfalso; omega)
        | exact if_pos c4
  · have h5 := q_b1.mp h5
    refine q_iload_n (n := 9) dX8_kindRefusal_8 rfl rfl ?_
    refine q_i2l (n := 10) dX8_kindRefusal_9 rfl ?_
    refine q_ldc2 (x := -1) (n := 13) dX8_kindRefusal_10 rfl kX8_159 (k := ?_)
    refine q_ldc2 (x := 11) (n := 16) dX8_kindRefusal_13 rfl kX8_88 (k := ?_)
    refine q_c3D (n := 19) dX8_kindRefusal_16 rfl (zX8_in _ _ _ _ _) vX8_in lX8_13 rfl rfl ?_
    refine q_if_ne (n := 22) (t := 24) dX8_kindRefusal_19 rfl (by decide) (fun h19 => ?_) (fun h19 => ?_)
    · have h19 := q_b1.mp h19
      refine q_iload_n (n := 25) dX8_kindRefusal_24 rfl rfl ?_
      refine q_if_lt (n := 28) (t := 49) dX8_kindRefusal_25 rfl (by decide) (fun h25 => ?_) (fun h25 => ?_)
      · skip
        refine q_iconst (n := 50) dX8_kindRefusal_49 rfl (k := ?_)
        refine q_iret dX8_kindRefusal_50 rfl (fun _ => rfl) ?_
        refine ⟨congrArg some (congrArg Sum.inl (Eq.symm ?_)), rfl⟩
        rcases hc with ⟨c1, c2⟩ | ⟨c1, c2, c3⟩ | ⟨c1, c2, c3, c4⟩
        · rw [c2]
          first
            | exact if_neg (by show ¬ (0 : Int) ≤ -1; decide)
            | (exfalso; omega)
        · rw [c3]
          first
            | (exfalso; omega)
            | exact if_neg (by show ¬ (0 : Int) ≤ -5; decide)
        · rw [c3]
          first
            | (exfalso; omega)
            | exact if_pos c4
      · have hcg := (hI.2.2.1 k (by omega) (by omega)).1.1
        have hnb := num_bd (k := k) (j := 0) ⟨by omega, by omega⟩ (by decide)
        unfold q_bd at hnb
        refine q_aload_n (n := 29) dX8_kindRefusal_28 rfl rfl ?_
        refine q_getR (n := 32) dX8_kindRefusal_29 rfl fX8_27 mi0 rfl ?_
        refine q_iload_n (n := 33) dX8_kindRefusal_32 rfl rfl ?_
        refine q_ialoadF (σ 2) (n := 34) dX8_kindRefusal_33 rfl mi2 ⟨by omega, by omega⟩ rfl ?_
        refine q_topI (num k 0 + 1) hcg ?_
        refine q_iconst (n := 35) dX8_kindRefusal_34 rfl (k := ?_)
        refine q_isubS (n := 36) dX8_kindRefusal_35 rfl ⟨by omega, by omega⟩ ?_
        refine q_aload_n (n := 37) dX8_kindRefusal_36 rfl rfl ?_
        refine q_iload_n (n := 38) dX8_kindRefusal_37 rfl rfl ?_
        refine q_v1D (n := 41) dX8_kindRefusal_38 rfl (zX8_turnOf _ σ _ hI ⟨by omega, by omega⟩) vX8_turnOf lX8_109 rfl rfl mi0 rfl ?_
        refine q_icmp_eq (n := 44) (t := 49) dX8_kindRefusal_41 rfl (by decide) (fun h41 => ?_) (fun h41 => ?_)
        · skip
          refine q_iconst (n := 50) dX8_kindRefusal_49 rfl (k := ?_)
          refine q_iret dX8_kindRefusal_50 rfl (fun _ => rfl) ?_
          refine ⟨congrArg some (congrArg Sum.inl (Eq.symm ?_)), rfl⟩
          rcases hc with ⟨c1, c2⟩ | ⟨c1, c2, c3⟩ | ⟨c1, c2, c3, c4⟩
          · rw [c2]
            first
              | exact if_neg (by show ¬ (0 : Int) ≤ -1; decide)
              | (exfalso; omega)
          · rw [c3]
            first
              | (exfalso; omega)
              | exact if_neg (by show ¬ (0 : Int) ≤ -5; decide)
          · rw [c3]
            first
              | (exfalso; omega)
              | exact if_pos c4
        · skip
          refine q_bipush (n := 46) dX8_kindRefusal_44 rfl (k := ?_)
          refine q_go (t := 50) dX8_kindRefusal_46 (by decide) ?_
          refine q_iret dX8_kindRefusal_50 rfl (fun _ => rfl) ?_
          refine ⟨congrArg some (congrArg Sum.inl (Eq.symm ?_)), rfl⟩
          rcases hc with ⟨c1, c2⟩ | ⟨c1, c2, c3⟩ | ⟨c1, c2, c3, c4⟩
          · rw [c2]
            first
              | exact if_neg (by show ¬ (0 : Int) ≤ -1; decide)
              | (exfalso; omega)
          · rw [c3]
            first
              | (exfalso; omega)
              | exact if_neg (by show ¬ (0 : Int) ≤ -5; decide)
          · rw [c3]
            first
              | (exfalso; omega)
              | exact if_pos c4
    · have h19 := q_b0.mp h19
      refine q_iconst (n := 23) dX8_kindRefusal_22 rfl (k := ?_)
      refine q_iret dX8_kindRefusal_23 rfl (fun _ => rfl) ?_
      refine ⟨congrArg some (congrArg Sum.inl (Eq.symm ?_)), rfl⟩
      rcases hc with ⟨c1, c2⟩ | ⟨c1, c2, c3⟩ | ⟨c1, c2, c3, c4⟩
      · rw [c2]
        first
          | exact if_neg (by show ¬ (0 : Int) ≤ -1; decide)
          | (exfalso; omega)
      · rw [c3]
        first
          | (exfalso; omega)
          | exact if_neg (by show ¬ (0 : Int) ≤ -5; decide)
      · rw [c3]
        first
          | (exfalso; omega)
          | exact if_pos c4
set_option maxRecDepth 100000 in
theorem zX8_kind (t k : Int) (σ s : q_S) (hI : IM σ) : q_Ct mX8_kind shM [.inr (.inr 0), .inl t, .inl k] (ovM σ s) (fun r σ' => ∃ z, r = some z ∧ (z = .inl ((oK t k (pM (σ 1))).1) ∧ chM σ (oK t k (pM (σ 1))) σ')) := by
  refine q_ct 2 (by decide) rfl rfl ?_
  show q_WP mX8_kind shM 0 [some (.inr (.inr 0)), some (.inl t), some (.inl k), none, none] [] (ovM σ s) _
  have hn := hI.nt
  have h11 : pM (σ 1) 1 1 = σ 1 1 := rfl
  have hc := @oK_c t k (pM (σ 1)) (fun j a b => (hI.kd ⟨a, b⟩).1)
  refine q_aload_n (n := 1) dX8_kind_0 rfl rfl ?_
  refine q_iload_n (n := 2) dX8_kind_1 rfl rfl ?_
  refine q_iload_n (n := 3) dX8_kind_2 rfl rfl ?_
  refine q_v2D (n := 6) dX8_kind_3 rfl (zX8_kindRefusal t k σ _ hI) vX8_kindRefusal lX8_161 rfl rfl mi0 rfl ?_
  refine q_istore_n (n := 7) dX8_kind_6 rfl (Nat.le_of_ble_eq_true rfl) (q_s1_s (q_s1_s (q_s1_1 rfl))) ?_
  refine q_iload_n (n := 8) dX8_kind_7 rfl rfl ?_
  refine q_if_eq (n := 11) (t := 13) dX8_kind_8 rfl (by decide) (fun h8 => ?_) (fun h8 => ?_)
  · have hp : 0 ≤ (oK t k (pM (σ 1))).1 := by
      by_cases z : 0 ≤ (oK t k (pM (σ 1))).1
      · exact z
      · rw [if_neg z] at h8
        omega
    have hk : ((0 ≤ t ∧ t < pM (σ 1) 1 1) ∧ (k = -1 ∨ 0 ≤ k ∧ k < 12)) ∧ oK t k (pM (σ 1)) = (pM (σ 1) 3 t, q_up (pM (σ 1)) 3 t (if k = -1 then 12 else k)) := by
      rcases hc with ⟨c1, c2⟩ | ⟨c1, c2, c3⟩ | ⟨c1, c2, c3, c4⟩
      · rw [c2] at hp
        exact absurd hp (by show ¬ (0 : Int) ≤ -1; decide)
      · rw [c3] at hp
        exact absurd hp (by show ¬ (0 : Int) ≤ -5; decide)
      · exact ⟨c1, c3⟩
    have hkr := hI.2.1 t (by omega) (by omega)
    have ek : kpM σ 1 (51 + t) = σ 1 (51 + t) := by rw [kpM_1]
    refine q_aload_n (n := 14) dX8_kind_13 rfl rfl ?_
    refine q_v0U (n := 17) dX8_kind_14 rfl (zX8_keeps σ _ hI) vX8_keeps lX8_141 rfl rfl mi0 rfl ?_
    refine q_aload_n (n := 18) dX8_kind_17 rfl rfl ?_
    refine q_iload_n (n := 19) dX8_kind_18 rfl rfl ?_
    refine q_v1D (n := 22) dX8_kind_19 rfl (zX8_kindOf t (kpM σ) _ ⟨by omega, by omega⟩) vX8_kindOf lX8_164 rfl rfl mi0 rfl ?_
    refine q_istore (n := 24) dX8_kind_22 rfl (Nat.le_of_ble_eq_true rfl) (q_s1_s (q_s1_s (q_s1_s (q_s1_1 rfl)))) ?_
    refine q_aload_n (n := 25) dX8_kind_24 rfl rfl ?_
    refine q_getR (n := 28) dX8_kind_25 rfl fX8_23 mi0 rfl ?_
    refine q_bipush (n := 30) dX8_kind_28 rfl (k := ?_)
    refine q_iload_n (n := 31) dX8_kind_30 rfl rfl ?_
    refine q_iaddS (n := 32) dX8_kind_31 rfl ⟨by omega, by omega⟩ ?_
    refine q_iload_n (n := 33) dX8_kind_32 rfl rfl ?_
    refine q_iastore (n := 34) dX8_kind_33 rfl mi1 ⟨by omega, by omega⟩ ?_
    rw [om_upn rfl]
    refine q_iload (n := 36) dX8_kind_34 rfl rfl ?_
    refine q_if_ge (n := 39) (t := 44) dX8_kind_36 rfl (by decide) (fun h36 => ?_) (fun h36 => ?_)
    · skip
      refine q_iload (n := 46) dX8_kind_44 rfl rfl ?_
      refine q_iret dX8_kind_46 rfl (fun _ => rfl) ?_
      refine ⟨_, rfl, congrArg Sum.inl ?_, Or.inl ⟨hp, _, s, rfl, fun c hc => q_up_o hc, ?_, ?_⟩⟩
      · rw [hk.2]
        show _ = (if σ 1 (51 + t) = -1 then (12 : Int) else σ 1 (51 + t))
        first
          | (rw [if_neg (by omega)]; omega)
          | (rw [if_pos (by omega)]; done)
      · rw [hk.2, up_fn, kpM_1]
        exact kc_pE ⟨by omega, by omega⟩
      · intro t' t0 t1
        rw [up_fn, kpM_1] at t1 ⊢
        have e1 : ¬ (1 : Int) = 51 + t := by omega
        dsimp only at t1 ⊢
        rw [if_neg e1] at t1
        by_cases e : 51 + t' = 51 + t
        · rw [if_pos e]
          omega
        · rw [if_neg e]
          exact hI.2.1 t' t0 t1
    · skip
      refine q_bipush (n := 41) dX8_kind_39 rfl (k := ?_)
      refine q_go (t := 46) dX8_kind_41 (by decide) ?_
      refine q_iret dX8_kind_46 rfl (fun _ => rfl) ?_
      refine ⟨_, rfl, congrArg Sum.inl ?_, Or.inl ⟨hp, _, s, rfl, fun c hc => q_up_o hc, ?_, ?_⟩⟩
      · rw [hk.2]
        show _ = (if σ 1 (51 + t) = -1 then (12 : Int) else σ 1 (51 + t))
        first
          | (rw [if_neg (by omega)]; omega)
          | (rw [if_pos (by omega)]; done)
      · rw [hk.2, up_fn, kpM_1]
        exact kc_pE ⟨by omega, by omega⟩
      · intro t' t0 t1
        rw [up_fn, kpM_1] at t1 ⊢
        have e1 : ¬ (1 : Int) = 51 + t := by omega
        dsimp only at t1 ⊢
        rw [if_neg e1] at t1
        by_cases e : 51 + t' = 51 + t
        · rw [if_pos e]
          omega
        · rw [if_neg e]
          exact hI.2.1 t' t0 t1
  · have hp : ¬ 0 ≤ (oK t k (pM (σ 1))).1 := fun z => h8 (if_pos z)
    refine q_iload_n (n := 12) dX8_kind_11 rfl rfl ?_
    refine q_iret dX8_kind_12 rfl (fun _ => rfl) ?_
    exact ⟨_, rfl, congrArg Sum.inl (if_neg hp), Or.inr ⟨by omega, s, rfl⟩⟩
