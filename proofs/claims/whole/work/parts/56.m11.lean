theorem akA_un {f kd : Int → Int} {nt a b : Int} : (akA f kd nt a b).2.2.2.2 = unL kd (mF a b nt) (mC a b nt).toNat 0 0 := akL_k _ _ _
theorem nmK_of {σ s : q_S} {v : Int} (hI : IM σ) (hv : 0 ≤ v ∧ v < σ 1 2) (hk : (akA (pM (σ 1) 2) (pM (σ 1) 3) (σ 1 1) (pM (σ 1) 6 v) (pM (σ 1) 7 v)).2.2.2.2 = 0) (hs : ∀ j, 0 ≤ j → j < σ 1 1 → s 10 j = σ 1 (51 + j)) : nmK s (σ 1 1) (pM (σ 1) 6 v) (pM (σ 1) 7 v) := by
  intro t t0 t1 hb
  have hn := hI.nt
  have hvt := hI.tie hv
  have h2 := hI.2.1 t t0 t1
  rw [hs t t0 t1]
  by_cases e : σ 1 (51 + t) = -1
  · obtain ⟨x, x0, x1, _⟩ := (akA_who (f := (pM (σ 1) 2)) (kd := (pM (σ 1) 3)) hn hvt.2.2).2.2 t t0 t1 hb (by show (if σ 1 (51 + t) = -1 then (12 : Int) else σ 1 (51 + t)) = 12; rw [if_pos e])
    omega
  · omega
theorem told_of {σ s : q_S} (hs : ∀ j, 0 ≤ j → j < σ 1 1 → s 10 j = σ 1 (51 + j)) : ∀ t, 0 ≤ t → t < (σ 1 1) → (pM (σ 1) 3) t ≠ 12 → s 10 t = (pM (σ 1) 3) t := by
  intro t t0 t1 h
  have h : (if σ 1 (51 + t) = -1 then (12 : Int) else σ 1 (51 + t)) ≠ 12 := h
  show s 10 t = (if σ 1 (51 + t) = -1 then (12 : Int) else σ 1 (51 + t))
  by_cases e : σ 1 (51 + t) = -1
  · rw [if_pos e] at h
    exact absurd rfl h
  · rw [if_neg e]
    exact hs t t0 t1
set_option maxRecDepth 100000 in
theorem zX8_holds (v L u w : Int) (σ s : q_S) (hI : IM σ) : q_Ct mX8_holds shM [.inr (.inr 0), .inl v, .inl L, .inl u, .inl w] (ovM σ s) (fun r σ' => r = some (.inl (fHolds (σ 1 1) (σ 1 2) (pM (σ 1) 2) (pM (σ 1) 3) (pM (σ 1) 6) (pM (σ 1) 7) v L u w)) ∧ ∃ s', σ' = ovM σ s') := by
  refine q_ct 0 (by decide) rfl rfl ?_
  show q_WP mX8_holds shM 0 [some (.inr (.inr 0)), some (.inl v), some (.inl L), some (.inl u), some (.inl w)] [] (ovM σ s) _
  have hn := hI.nt
  have hvv := hI.nv
  have hkl := @lawB_ag L
  refine q_aload_n (n := 1) dX8_holds_0 rfl rfl ?_
  refine q_iload_n (n := 2) dX8_holds_1 rfl rfl ?_
  refine q_v1D (n := 5) dX8_holds_2 rfl (zX8_isVertex _ σ _ (by omega)) vX8_isVertex lX8_192 rfl rfl mi0 rfl ?_
  refine q_if_eq (n := 8) (t := 47) dX8_holds_5 rfl (by decide) (fun h5 => ?_) (fun h5 => ?_)
  · have hv := q_b0.mp h5
    refine q_iconst (n := 48) dX8_holds_47 rfl (k := ?_)
    refine q_iret dX8_holds_48 rfl (fun _ => rfl) ?_
    refine ⟨congrArg some (congrArg Sum.inl (Eq.symm ?_)), _, rfl⟩
    unfold fHolds
    have hb : ¬ (0 ≤ v ∧ v < σ 1 2) ∨ ¬ (0 ≤ L ∧ L < 3) ∨ ¬ (w = -1 ∨ (0 ≤ w ∧ w < 12) ∧ num w 0 = 0) ∨ (pM (σ 1) 6 v = -1 ∧ ¬ ((0 ≤ u ∧ u < 12) ∧ num u 0 = 0)) := by
      first
        | exact Or.inl hv
        | exact Or.inr (Or.inl h12)
        | exact Or.inr (Or.inr (Or.inl (fun z => z.elim h18 h27)))
        | exact Or.inr (Or.inr (Or.inr ⟨by omega, h44⟩))
    exact if_pos hb
  · have hv := q_b1.mp h5
    have hvt := hI.tie hv
    have ht1 := hvt.2.2.1
    have hun := akA_un (f := (pM (σ 1) 2)) (kd := (pM (σ 1) 3)) (nt := (σ 1 1)) (a := (pM (σ 1) 6 v)) (b := (pM (σ 1) 7 v))
    have hk00 := (akL_keep (f := (pM (σ 1) 2)) (kd := (pM (σ 1) 3)) (g := mF (pM (σ 1) 6 v) (pM (σ 1) 7 v) (σ 1 1)) (a := (pM (σ 1) 6 v)) (mC (pM (σ 1) 6 v) (pM (σ 1) 7 v) (σ 1 1)).toNat 0 A0 (by decide)).1
    have hk00 : 0 ≤ (akA (pM (σ 1) 2) (pM (σ 1) 3) (σ 1 1) (pM (σ 1) 6 v) (pM (σ 1) 7 v)).2.2.2.2 := hk00
    refine q_iload_n (n := 9) dX8_holds_8 rfl rfl ?_
    refine q_c1D (n := 12) dX8_holds_9 rfl (zX8_isLaw _ _ _) vX8_isLaw lX8_262 rfl rfl ?_
    refine q_if_eq (n := 15) (t := 47) dX8_holds_12 rfl (by decide) (fun h12 => ?_) (fun h12 => ?_)
    · have h12 := q_b0.mp h12
      refine q_iconst (n := 48) dX8_holds_47 rfl (k := ?_)
      refine q_iret dX8_holds_48 rfl (fun _ => rfl) ?_
      refine ⟨congrArg some (congrArg Sum.inl (Eq.symm ?_)), _, rfl⟩
      unfold fHolds
      have hb : ¬ (0 ≤ v ∧ v < σ 1 2) ∨ ¬ (0 ≤ L ∧ L < 3) ∨ ¬ (w = -1 ∨ (0 ≤ w ∧ w < 12) ∧ num w 0 = 0) ∨ (pM (σ 1) 6 v = -1 ∧ ¬ ((0 ≤ u ∧ u < 12) ∧ num u 0 = 0)) := by
        first
          | exact Or.inl hv
          | exact Or.inr (Or.inl h12)
          | exact Or.inr (Or.inr (Or.inl (fun z => z.elim h18 h27)))
          | exact Or.inr (Or.inr (Or.inr ⟨by omega, h44⟩))
      exact if_pos hb
    · have h12 := q_b1.mp h12
      refine q_iload (n := 17) dX8_holds_15 rfl rfl ?_
      refine q_iconst (n := 18) dX8_holds_17 rfl (k := ?_)
      refine q_icmp_eq (n := 21) (t := 30) dX8_holds_18 rfl (by decide) (fun h18 => ?_) (fun h18 => ?_)
      · skip
        refine q_aload_n (n := 31) dX8_holds_30 rfl rfl ?_
        refine q_iload_n (n := 32) dX8_holds_31 rfl rfl ?_
        refine q_iconst (n := 33) dX8_holds_32 rfl (k := ?_)
        refine q_v2D (n := 36) dX8_holds_33 rfl (zX8_vP2 _ σ _ ⟨by omega, by omega⟩) vX8_vertexAt lX8_185 rfl rfl mi0 rfl ?_
        refine q_if_ge (n := 39) (t := 49) dX8_holds_36 rfl (by decide) (fun h36 => ?_) (fun h36 => ?_)
        · skip
          have hok : ¬ (¬ (0 ≤ v ∧ v < σ 1 2) ∨ ¬ (0 ≤ L ∧ L < 3) ∨ ¬ (w = -1 ∨ (0 ≤ w ∧ w < 12) ∧ num w 0 = 0) ∨ (pM (σ 1) 6 v = -1 ∧ ¬ ((0 ≤ u ∧ u < 12) ∧ num u 0 = 0))) := by
            intro z
            rcases z with z | z | z | z
            · exact z hv
            · exact z h12
            · first | exact z (Or.inl h18) | exact z (Or.inr h27)
            · first | (exact z.2 h44) | omega
          have hw : w = -1 ∨ 0 ≤ w ∧ w < 12 := by first | exact Or.inl h18 | exact Or.inr h27.1
          have hu : (pM (σ 1) 6 v) = -1 → 0 ≤ u ∧ u < 12 := fun z => by first | exact h44.1 | (exfalso; omega)
          refine q_aload_n (n := 50) dX8_holds_49 rfl rfl ?_
          refine q_iload_n (n := 51) dX8_holds_50 rfl rfl ?_
          refine q_v1 (n := 54) dX8_holds_51 rfl (zX8_untoldMany v σ _ hI hv) vX8_untoldMany lX8_268 rfl rfl mi0 rfl (fun v51 σ51 h51 => ?_)
          obtain ⟨rfl, s51, rfl⟩ := h51
          · skip
            refine q_if_le (n := 57) (t := 60) dX8_holds_54 rfl (by decide) (fun h54 => ?_) (fun h54 => ?_)
            · skip
              refine q_aload_n (n := 61) dX8_holds_60 rfl rfl ?_
              refine q_v0W (n := 64) dX8_holds_61 rfl (zX8_tellsNamed σ _ hI) vX8_tellsNamed lX8_271 rfl rfl mi0 rfl (fun σ61 h61 => ?_)
              obtain ⟨s61, rfl, hn61, hf61⟩ := h61
              have hk0 : (akA (pM (σ 1) 2) (pM (σ 1) 3) (σ 1 1) (pM (σ 1) 6 v) (pM (σ 1) 7 v)).2.2.2.2 = 0 := by omega
              have hnm := nmK_of hI hv hk0 hn61
              have hag := hoE_eq (nm := s61 10) (u := u) (w := w) hn hvt.2.2 hk0 (told_of hn61)
              · skip
                refine q_aload_n (n := 65) dX8_holds_64 rfl rfl ?_
                refine q_iload_n (n := 66) dX8_holds_65 rfl rfl ?_
                refine q_iload_n (n := 67) dX8_holds_66 rfl rfl ?_
                refine q_iload_n (n := 68) dX8_holds_67 rfl rfl ?_
                refine q_iload (n := 70) dX8_holds_68 rfl rfl ?_
                refine q_v4D (n := 73) dX8_holds_70 rfl (zX8_isHeld v _ _ _ σ _ hI hv hnm hw hu) vX8_isHeld lX8_274 rfl rfl mi0 rfl ?_
                refine q_if_eq (n := 76) (t := 80) dX8_holds_73 rfl (by decide) (fun h73 => ?_) (fun h73 => ?_)
                · have h73 := q_b0.mp h73
                  refine q_iconst (n := 81) dX8_holds_80 rfl (k := ?_)
                  refine q_iret dX8_holds_81 rfl (fun _ => rfl) ?_
                  refine ⟨congrArg some (congrArg Sum.inl (Eq.symm ?_)), _, rfl⟩
                  unfold fHolds
                  rw [if_neg hok, if_neg (by omega)]
                  first
                    | exact if_pos ((hkl hag).mp h73)
                    | exact if_neg (fun z => h73 ((hkl hag).mpr z))
                · have h73 := q_b1.mp h73
                  refine q_iconst (n := 77) dX8_holds_76 rfl (k := ?_)
                  refine q_go (t := 81) dX8_holds_77 (by decide) ?_
                  refine q_iret dX8_holds_81 rfl (fun _ => rfl) ?_
                  refine ⟨congrArg some (congrArg Sum.inl (Eq.symm ?_)), _, rfl⟩
                  unfold fHolds
                  rw [if_neg hok, if_neg (by omega)]
                  first
                    | exact if_pos ((hkl hag).mp h73)
                    | exact if_neg (fun z => h73 ((hkl hag).mpr z))
            · skip
              refine q_bipush (n := 59) dX8_holds_57 rfl (k := ?_)
              refine q_iret dX8_holds_59 rfl (fun _ => rfl) ?_
              refine ⟨congrArg some (congrArg Sum.inl (Eq.symm ?_)), _, rfl⟩
              unfold fHolds
              rw [if_neg hok, if_pos (by omega)]
        · skip
          refine q_aload_n (n := 40) dX8_holds_39 rfl rfl ?_
          refine q_iload_n (n := 41) dX8_holds_40 rfl rfl ?_
          refine q_v1D (n := 44) dX8_holds_41 rfl (zX8_isNeutral _ σ _ hI) vX8_isNeutral lX8_265 rfl rfl mi0 rfl ?_
          refine q_if_ne (n := 47) (t := 49) dX8_holds_44 rfl (by decide) (fun h44 => ?_) (fun h44 => ?_)
          · have h44 := q_b1.mp h44
            have hok : ¬ (¬ (0 ≤ v ∧ v < σ 1 2) ∨ ¬ (0 ≤ L ∧ L < 3) ∨ ¬ (w = -1 ∨ (0 ≤ w ∧ w < 12) ∧ num w 0 = 0) ∨ (pM (σ 1) 6 v = -1 ∧ ¬ ((0 ≤ u ∧ u < 12) ∧ num u 0 = 0))) := by
              intro z
              rcases z with z | z | z | z
              · exact z hv
              · exact z h12
              · first | exact z (Or.inl h18) | exact z (Or.inr h27)
              · first | (exact z.2 h44) | omega
            have hw : w = -1 ∨ 0 ≤ w ∧ w < 12 := by first | exact Or.inl h18 | exact Or.inr h27.1
            have hu : (pM (σ 1) 6 v) = -1 → 0 ≤ u ∧ u < 12 := fun z => by first | exact h44.1 | (exfalso; omega)
            refine q_aload_n (n := 50) dX8_holds_49 rfl rfl ?_
            refine q_iload_n (n := 51) dX8_holds_50 rfl rfl ?_
            refine q_v1 (n := 54) dX8_holds_51 rfl (zX8_untoldMany v σ _ hI hv) vX8_untoldMany lX8_268 rfl rfl mi0 rfl (fun v51 σ51 h51 => ?_)
            obtain ⟨rfl, s51, rfl⟩ := h51
            · skip
              refine q_if_le (n := 57) (t := 60) dX8_holds_54 rfl (by decide) (fun h54 => ?_) (fun h54 => ?_)
              · skip
                refine q_aload_n (n := 61) dX8_holds_60 rfl rfl ?_
                refine q_v0W (n := 64) dX8_holds_61 rfl (zX8_tellsNamed σ _ hI) vX8_tellsNamed lX8_271 rfl rfl mi0 rfl (fun σ61 h61 => ?_)
                obtain ⟨s61, rfl, hn61, hf61⟩ := h61
                have hk0 : (akA (pM (σ 1) 2) (pM (σ 1) 3) (σ 1 1) (pM (σ 1) 6 v) (pM (σ 1) 7 v)).2.2.2.2 = 0 := by omega
                have hnm := nmK_of hI hv hk0 hn61
                have hag := hoE_eq (nm := s61 10) (u := u) (w := w) hn hvt.2.2 hk0 (told_of hn61)
                · skip
                  refine q_aload_n (n := 65) dX8_holds_64 rfl rfl ?_
                  refine q_iload_n (n := 66) dX8_holds_65 rfl rfl ?_
                  refine q_iload_n (n := 67) dX8_holds_66 rfl rfl ?_
                  refine q_iload_n (n := 68) dX8_holds_67 rfl rfl ?_
                  refine q_iload (n := 70) dX8_holds_68 rfl rfl ?_
                  refine q_v4D (n := 73) dX8_holds_70 rfl (zX8_isHeld v _ _ _ σ _ hI hv hnm hw hu) vX8_isHeld lX8_274 rfl rfl mi0 rfl ?_
                  refine q_if_eq (n := 76) (t := 80) dX8_holds_73 rfl (by decide) (fun h73 => ?_) (fun h73 => ?_)
                  · have h73 := q_b0.mp h73
                    refine q_iconst (n := 81) dX8_holds_80 rfl (k := ?_)
                    refine q_iret dX8_holds_81 rfl (fun _ => rfl) ?_
                    refine ⟨congrArg some (congrArg Sum.inl (Eq.symm ?_)), _, rfl⟩
                    unfold fHolds
                    rw [if_neg hok, if_neg (by omega)]
                    first
                      | exact if_pos ((hkl hag).mp h73)
                      | exact if_neg (fun z => h73 ((hkl hag).mpr z))
                  · have h73 := q_b1.mp h73
                    refine q_iconst (n := 77) dX8_holds_76 rfl (k := ?_)
                    refine q_go (t := 81) dX8_holds_77 (by decide) ?_
                    refine q_iret dX8_holds_81 rfl (fun _ => rfl) ?_
                    refine ⟨congrArg some (congrArg Sum.inl (Eq.symm ?_)), _, rfl⟩
                    unfold fHolds
                    rw [if_neg hok, if_neg (by omega)]
                    first
                      | exact if_pos ((hkl hag).mp h73)
                      | exact if_neg (fun z => h73 ((hkl hag).mpr z))
              · skip
                refine q_bipush (n := 59) dX8_holds_57 rfl (k := ?_)
                refine q_iret dX8_holds_59 rfl (fun _ => rfl) ?_
                refine ⟨congrArg some (congrArg Sum.inl (Eq.symm ?_)), _, rfl⟩
                unfold fHolds
                rw [if_neg hok, if_pos (by omega)]
          · have h44 := q_b0.mp h44
            refine q_iconst (n := 48) dX8_holds_47 rfl (k := ?_)
            refine q_iret dX8_holds_48 rfl (fun _ => rfl) ?_
            refine ⟨congrArg some (congrArg Sum.inl (Eq.symm ?_)), _, rfl⟩
            unfold fHolds
            have hb : ¬ (0 ≤ v ∧ v < σ 1 2) ∨ ¬ (0 ≤ L ∧ L < 3) ∨ ¬ (w = -1 ∨ (0 ≤ w ∧ w < 12) ∧ num w 0 = 0) ∨ (pM (σ 1) 6 v = -1 ∧ ¬ ((0 ≤ u ∧ u < 12) ∧ num u 0 = 0)) := by
              first
                | exact Or.inl hv
                | exact Or.inr (Or.inl h12)
                | exact Or.inr (Or.inr (Or.inl (fun z => z.elim h18 h27)))
                | exact Or.inr (Or.inr (Or.inr ⟨by omega, h44⟩))
            exact if_pos hb
      · skip
        refine q_aload_n (n := 22) dX8_holds_21 rfl rfl ?_
        refine q_iload (n := 24) dX8_holds_22 rfl rfl ?_
        refine q_v1D (n := 27) dX8_holds_24 rfl (zX8_isNeutral _ σ _ hI) vX8_isNeutral lX8_265 rfl rfl mi0 rfl ?_
        refine q_if_eq (n := 30) (t := 47) dX8_holds_27 rfl (by decide) (fun h27 => ?_) (fun h27 => ?_)
        · have h27 := q_b0.mp h27
          refine q_iconst (n := 48) dX8_holds_47 rfl (k := ?_)
          refine q_iret dX8_holds_48 rfl (fun _ => rfl) ?_
          refine ⟨congrArg some (congrArg Sum.inl (Eq.symm ?_)), _, rfl⟩
          unfold fHolds
          have hb : ¬ (0 ≤ v ∧ v < σ 1 2) ∨ ¬ (0 ≤ L ∧ L < 3) ∨ ¬ (w = -1 ∨ (0 ≤ w ∧ w < 12) ∧ num w 0 = 0) ∨ (pM (σ 1) 6 v = -1 ∧ ¬ ((0 ≤ u ∧ u < 12) ∧ num u 0 = 0)) := by
            first
              | exact Or.inl hv
              | exact Or.inr (Or.inl h12)
              | exact Or.inr (Or.inr (Or.inl (fun z => z.elim h18 h27)))
              | exact Or.inr (Or.inr (Or.inr ⟨by omega, h44⟩))
          exact if_pos hb
        · have h27 := q_b1.mp h27
          refine q_aload_n (n := 31) dX8_holds_30 rfl rfl ?_
          refine q_iload_n (n := 32) dX8_holds_31 rfl rfl ?_
          refine q_iconst (n := 33) dX8_holds_32 rfl (k := ?_)
          refine q_v2D (n := 36) dX8_holds_33 rfl (zX8_vP2 _ σ _ ⟨by omega, by omega⟩) vX8_vertexAt lX8_185 rfl rfl mi0 rfl ?_
          refine q_if_ge (n := 39) (t := 49) dX8_holds_36 rfl (by decide) (fun h36 => ?_) (fun h36 => ?_)
          · skip
            have hok : ¬ (¬ (0 ≤ v ∧ v < σ 1 2) ∨ ¬ (0 ≤ L ∧ L < 3) ∨ ¬ (w = -1 ∨ (0 ≤ w ∧ w < 12) ∧ num w 0 = 0) ∨ (pM (σ 1) 6 v = -1 ∧ ¬ ((0 ≤ u ∧ u < 12) ∧ num u 0 = 0))) := by
              intro z
              rcases z with z | z | z | z
              · exact z hv
              · exact z h12
              · first | exact z (Or.inl h18) | exact z (Or.inr h27)
              · first | (exact z.2 h44) | omega
            have hw : w = -1 ∨ 0 ≤ w ∧ w < 12 := by first | exact Or.inl h18 | exact Or.inr h27.1
            have hu : (pM (σ 1) 6 v) = -1 → 0 ≤ u ∧ u < 12 := fun z => by first | exact h44.1 | (exfalso; omega)
            refine q_aload_n (n := 50) dX8_holds_49 rfl rfl ?_
            refine q_iload_n (n := 51) dX8_holds_50 rfl rfl ?_
            refine q_v1 (n := 54) dX8_holds_51 rfl (zX8_untoldMany v σ _ hI hv) vX8_untoldMany lX8_268 rfl rfl mi0 rfl (fun v51 σ51 h51 => ?_)
            obtain ⟨rfl, s51, rfl⟩ := h51
            · skip
              refine q_if_le (n := 57) (t := 60) dX8_holds_54 rfl (by decide) (fun h54 => ?_) (fun h54 => ?_)
              · skip
                refine q_aload_n (n := 61) dX8_holds_60 rfl rfl ?_
                refine q_v0W (n := 64) dX8_holds_61 rfl (zX8_tellsNamed σ _ hI) vX8_tellsNamed lX8_271 rfl rfl mi0 rfl (fun σ61 h61 => ?_)
                obtain ⟨s61, rfl, hn61, hf61⟩ := h61
                have hk0 : (akA (pM (σ 1) 2) (pM (σ 1) 3) (σ 1 1) (pM (σ 1) 6 v) (pM (σ 1) 7 v)).2.2.2.2 = 0 := by omega
                have hnm := nmK_of hI hv hk0 hn61
                have hag := hoE_eq (nm := s61 10) (u := u) (w := w) hn hvt.2.2 hk0 (told_of hn61)
                · skip
                  refine q_aload_n (n := 65) dX8_holds_64 rfl rfl ?_
                  refine q_iload_n (n := 66) dX8_holds_65 rfl rfl ?_
                  refine q_iload_n (n := 67) dX8_holds_66 rfl rfl ?_
                  refine q_iload_n (n := 68) dX8_holds_67 rfl rfl ?_
                  refine q_iload (n := 70) dX8_holds_68 rfl rfl ?_
                  refine q_v4D (n := 73) dX8_holds_70 rfl (zX8_isHeld v _ _ _ σ _ hI hv hnm hw hu) vX8_isHeld lX8_274 rfl rfl mi0 rfl ?_
                  refine q_if_eq (n := 76) (t := 80) dX8_holds_73 rfl (by decide) (fun h73 => ?_) (fun h73 => ?_)
                  · have h73 := q_b0.mp h73
                    refine q_iconst (n := 81) dX8_holds_80 rfl (k := ?_)
                    refine q_iret dX8_holds_81 rfl (fun _ => rfl) ?_
                    refine ⟨congrArg some (congrArg Sum.inl (Eq.symm ?_)), _, rfl⟩
                    unfold fHolds
                    rw [if_neg hok, if_neg (by omega)]
                    first
                      | exact if_pos ((hkl hag).mp h73)
                      | exact if_neg (fun z => h73 ((hkl hag).mpr z))
                  · have h73 := q_b1.mp h73
                    refine q_iconst (n := 77) dX8_holds_76 rfl (k := ?_)
                    refine q_go (t := 81) dX8_holds_77 (by decide) ?_
                    refine q_iret dX8_holds_81 rfl (fun _ => rfl) ?_
                    refine ⟨congrArg some (congrArg Sum.inl (Eq.symm ?_)), _, rfl⟩
                    unfold fHolds
                    rw [if_neg hok, if_neg (by omega)]
                    first
                      | exact if_pos ((hkl hag).mp h73)
                      | exact if_neg (fun z => h73 ((hkl hag).mpr z))
              · skip
                refine q_bipush (n := 59) dX8_holds_57 rfl (k := ?_)
                refine q_iret dX8_holds_59 rfl (fun _ => rfl) ?_
                refine ⟨congrArg some (congrArg Sum.inl (Eq.symm ?_)), _, rfl⟩
                unfold fHolds
                rw [if_neg hok, if_pos (by omega)]
          · skip
            refine q_aload_n (n := 40) dX8_holds_39 rfl rfl ?_
            refine q_iload_n (n := 41) dX8_holds_40 rfl rfl ?_
            refine q_v1D (n := 44) dX8_holds_41 rfl (zX8_isNeutral _ σ _ hI) vX8_isNeutral lX8_265 rfl rfl mi0 rfl ?_
            refine q_if_ne (n := 47) (t := 49) dX8_holds_44 rfl (by decide) (fun h44 => ?_) (fun h44 => ?_)
            · have h44 := q_b1.mp h44
              have hok : ¬ (¬ (0 ≤ v ∧ v < σ 1 2) ∨ ¬ (0 ≤ L ∧ L < 3) ∨ ¬ (w = -1 ∨ (0 ≤ w ∧ w < 12) ∧ num w 0 = 0) ∨ (pM (σ 1) 6 v = -1 ∧ ¬ ((0 ≤ u ∧ u < 12) ∧ num u 0 = 0))) := by
                intro z
                rcases z with z | z | z | z
                · exact z hv
                · exact z h12
                · first | exact z (Or.inl h18) | exact z (Or.inr h27)
                · first | (exact z.2 h44) | omega
              have hw : w = -1 ∨ 0 ≤ w ∧ w < 12 := by first | exact Or.inl h18 | exact Or.inr h27.1
              have hu : (pM (σ 1) 6 v) = -1 → 0 ≤ u ∧ u < 12 := fun z => by first | exact h44.1 | (exfalso; omega)
              refine q_aload_n (n := 50) dX8_holds_49 rfl rfl ?_
              refine q_iload_n (n := 51) dX8_holds_50 rfl rfl ?_
              refine q_v1 (n := 54) dX8_holds_51 rfl (zX8_untoldMany v σ _ hI hv) vX8_untoldMany lX8_268 rfl rfl mi0 rfl (fun v51 σ51 h51 => ?_)
              obtain ⟨rfl, s51, rfl⟩ := h51
              · skip
                refine q_if_le (n := 57) (t := 60) dX8_holds_54 rfl (by decide) (fun h54 => ?_) (fun h54 => ?_)
                · skip
                  refine q_aload_n (n := 61) dX8_holds_60 rfl rfl ?_
                  refine q_v0W (n := 64) dX8_holds_61 rfl (zX8_tellsNamed σ _ hI) vX8_tellsNamed lX8_271 rfl rfl mi0 rfl (fun σ61 h61 => ?_)
                  obtain ⟨s61, rfl, hn61, hf61⟩ := h61
                  have hk0 : (akA (pM (σ 1) 2) (pM (σ 1) 3) (σ 1 1) (pM (σ 1) 6 v) (pM (σ 1) 7 v)).2.2.2.2 = 0 := by omega
                  have hnm := nmK_of hI hv hk0 hn61
                  have hag := hoE_eq (nm := s61 10) (u := u) (w := w) hn hvt.2.2 hk0 (told_of hn61)
                  · skip
                    refine q_aload_n (n := 65) dX8_holds_64 rfl rfl ?_
                    refine q_iload_n (n := 66) dX8_holds_65 rfl rfl ?_
                    refine q_iload_n (n := 67) dX8_holds_66 rfl rfl ?_
                    refine q_iload_n (n := 68) dX8_holds_67 rfl rfl ?_
                    refine q_iload (n := 70) dX8_holds_68 rfl rfl ?_
                    refine q_v4D (n := 73) dX8_holds_70 rfl (zX8_isHeld v _ _ _ σ _ hI hv hnm hw hu) vX8_isHeld lX8_274 rfl rfl mi0 rfl ?_
                    refine q_if_eq (n := 76) (t := 80) dX8_holds_73 rfl (by decide) (fun h73 => ?_) (fun h73 => ?_)
                    · have h73 := q_b0.mp h73
                      refine q_iconst (n := 81) dX8_holds_80 rfl (k := ?_)
                      refine q_iret dX8_holds_81 rfl (fun _ => rfl) ?_
                      refine ⟨congrArg some (congrArg Sum.inl (Eq.symm ?_)), _, rfl⟩
                      unfold fHolds
                      rw [if_neg hok, if_neg (by omega)]
                      first
                        | exact if_pos ((hkl hag).mp h73)
                        | exact if_neg (fun z => h73 ((hkl hag).mpr z))
                    · have h73 := q_b1.mp h73
                      refine q_iconst (n := 77) dX8_holds_76 rfl (k := ?_)
                      refine q_go (t := 81) dX8_holds_77 (by decide) ?_
                      refine q_iret dX8_holds_81 rfl (fun _ => rfl) ?_
                      refine ⟨congrArg some (congrArg Sum.inl (Eq.symm ?_)), _, rfl⟩
                      unfold fHolds
                      rw [if_neg hok, if_neg (by omega)]
                      first
                        | exact if_pos ((hkl hag).mp h73)
                        | exact if_neg (fun z => h73 ((hkl hag).mpr z))
                · skip
                  refine q_bipush (n := 59) dX8_holds_57 rfl (k := ?_)
                  refine q_iret dX8_holds_59 rfl (fun _ => rfl) ?_
                  refine ⟨congrArg some (congrArg Sum.inl (Eq.symm ?_)), _, rfl⟩
                  unfold fHolds
                  rw [if_neg hok, if_pos (by omega)]
            · have h44 := q_b0.mp h44
              refine q_iconst (n := 48) dX8_holds_47 rfl (k := ?_)
              refine q_iret dX8_holds_48 rfl (fun _ => rfl) ?_
              refine ⟨congrArg some (congrArg Sum.inl (Eq.symm ?_)), _, rfl⟩
              unfold fHolds
              have hb : ¬ (0 ≤ v ∧ v < σ 1 2) ∨ ¬ (0 ≤ L ∧ L < 3) ∨ ¬ (w = -1 ∨ (0 ≤ w ∧ w < 12) ∧ num w 0 = 0) ∨ (pM (σ 1) 6 v = -1 ∧ ¬ ((0 ≤ u ∧ u < 12) ∧ num u 0 = 0)) := by
                first
                  | exact Or.inl hv
                  | exact Or.inr (Or.inl h12)
                  | exact Or.inr (Or.inr (Or.inl (fun z => z.elim h18 h27)))
                  | exact Or.inr (Or.inr (Or.inr ⟨by omega, h44⟩))
              exact if_pos hb
def askM (s : q_S) (A : q_A5) (a lost : Int) : Prop := s 0 23 = (ak2 A a lost).2.2.2.2 ∧ ag A.2.2.2.2 (s 11) A.2.1 ∧ (a = -1 → s 11 A.2.2.2.2 = -1) ∧ (lost = 1 → s 11 ((ak2 A a lost).2.2.2.2 - 1) = -2)
set_option maxRecDepth 100000 in
theorem lpX8_te (σ s : q_S) (v lost i k2 : Int) (h : s 0 23 = k2) (hk : 0 ≤ k2 ∧ k2 ≤ 4) : q_WP mX8_tellsAsked shM 93 [some (.inr (.inr 0)), some (.inl v), some (.inl lost), some (.inl i)] [] (ovM σ s) (fun r σ' => r = none ∧ (∃ s', σ' = ovM σ s' ∧ s' 0 23 = k2 + (if lost = 1 then 1 else 0) ∧ (∀ x, x ≠ k2 → s' 11 x = s 11 x) ∧ (lost = 1 → s' 11 k2 = -2))) := by
  skip
  refine q_iload_n (n := 94) dX8_tellsAsked_93 rfl rfl ?_
  refine q_iconst (n := 95) dX8_tellsAsked_94 rfl (k := ?_)
  refine q_icmp_ne (n := 98) (t := 119) dX8_tellsAsked_95 rfl (by decide) (fun h95 => ?_) (fun h95 => ?_)
  · skip
    first
      | rw [om_up rfl]
      | skip
    refine q_vret dX8_tellsAsked_119 rfl ?_
    first
      | (refine ⟨rfl, s, rfl, ?_, fun _ _ => rfl, fun z => absurd z h95⟩
         rw [if_neg h95, h, Int.add_zero]; done)
      | (refine ⟨rfl, _, rfl, ?_, fun x hx => ?_, fun _ => ?_⟩
         · rw [q_up_s, if_pos h95]
         · rw [q_up_n (by omega), q_up_n (fun z => hx z.2)]
         · rw [q_up_n (by omega), q_up_s])
  · skip
    refine q_aload_n (n := 99) dX8_tellsAsked_98 rfl rfl ?_
    refine q_getR (n := 102) dX8_tellsAsked_99 rfl fX8_54 mi0 rfl ?_
    refine q_aload_n (n := 103) dX8_tellsAsked_102 rfl rfl ?_
    refine q_getIE (k2) (kI := 23) (n := 106) (by decide) dX8_tellsAsked_103 rfl fX8_278 mi0 rfl rfl h ?_
    refine q_bipush (n := 108) dX8_tellsAsked_106 rfl (k := ?_)
    refine q_iastore (n := 109) dX8_tellsAsked_108 rfl mi11 ⟨by omega, by omega⟩ ?_
    rw [om_up rfl]
    refine q_aload_n (n := 110) dX8_tellsAsked_109 rfl rfl ?_
    refine q_dup (n := 111) dX8_tellsAsked_110 rfl rfl ?_
    refine q_getIE (k2) (kI := 23) (n := 114) (by decide) dX8_tellsAsked_111 rfl fX8_278 mi0 rfl rfl (by rw [om_s rfl, q_up_n (by omega)]; exact h) ?_
    refine q_iconst (n := 115) dX8_tellsAsked_114 rfl (k := ?_)
    refine q_iaddS (n := 116) dX8_tellsAsked_115 rfl ⟨by omega, by omega⟩ ?_
    refine q_putI (kI := 23) (n := 119) dX8_tellsAsked_116 rfl pX8_278 mi0 rfl rfl ?_
    first
      | rw [om_up rfl]
      | skip
    refine q_vret dX8_tellsAsked_119 rfl ?_
    first
      | (refine ⟨rfl, s, rfl, ?_, fun _ _ => rfl, fun z => absurd z h95⟩
         rw [if_neg h95, h, Int.add_zero]; done)
      | (refine ⟨rfl, _, rfl, ?_, fun x hx => ?_, fun _ => ?_⟩
         · rw [q_up_s, if_pos h95]
         · rw [q_up_n (by omega), q_up_n (fun z => hx z.2)]
         · rw [q_up_n (by omega), q_up_s])
set_option maxRecDepth 100000 in
theorem lpX8_ta (σ : q_S) (v lost : Int) (hI : IM σ) (hv : 0 ≤ v ∧ v < σ 1 2) (hk3 : (akA (pM (σ 1) 2) (pM (σ 1) 3) (σ 1 1) (pM (σ 1) 6 v) (pM (σ 1) 7 v)).2.2.2.2 ≤ 3) : ∀ (n : Nat) (i : Int) (s : q_S) (A : q_A5), (n : Int) + i = mC (pM (σ 1) 6 v) (pM (σ 1) 7 v) (σ 1 1) → 0 ≤ i → s 0 16 = mC (pM (σ 1) 6 v) (pM (σ 1) 7 v) (σ 1 1) → (∀ j, 0 ≤ j → j < mC (pM (σ 1) 6 v) (pM (σ 1) 7 v) (σ 1 1) → s 9 j = mF (pM (σ 1) 6 v) (pM (σ 1) 7 v) (σ 1 1) j) → 0 ≤ A.2.2.2.2 → s 0 23 = A.2.2.2.2 → ag A.2.2.2.2 (s 11) A.2.1 → akL (pM (σ 1) 2) (pM (σ 1) 3) (pM (σ 1) 6 v) (mF (pM (σ 1) 6 v) (pM (σ 1) 7 v) (σ 1 1)) n i A = (akA (pM (σ 1) 2) (pM (σ 1) 3) (σ 1 1) (pM (σ 1) 6 v) (pM (σ 1) 7 v)) → q_WP mX8_tellsAsked shM 12 [some (.inr (.inr 0)), some (.inl v), some (.inl lost), some (.inl i)] [] (ovM σ s) (fun r σ' => r = none ∧ (∃ s', σ' = ovM σ s' ∧ askM s' (akA (pM (σ 1) 2) (pM (σ 1) 3) (σ 1 1) (pM (σ 1) 6 v) (pM (σ 1) 7 v)) (pM (σ 1) 6 v) lost)) := by
  have hn := hI.nt
  have hvv := hI.nv
  have hvt := hI.tie hv
  have hmc := mem_C hn hvt.2.2
  have ht1 := hvt.2.2.1
  intro n
  induction n with
  | zero =>
    intro i s A hi h0 hm0 hm hA0 hk hag hA
    have hA : A = (akA (pM (σ 1) 2) (pM (σ 1) 3) (σ 1 1) (pM (σ 1) 6 v) (pM (σ 1) 7 v)) := hA
    subst hA
    have hk2 := ak2_k (A := (akA (pM (σ 1) 2) (pM (σ 1) 3) (σ 1 1) (pM (σ 1) 6 v) (pM (σ 1) 7 v))) (a := (pM (σ 1) 6 v)) (lost := lost)
    refine q_iload_n (n := 13) dX8_tellsAsked_12 rfl rfl ?_
    refine q_aload_n (n := 14) dX8_tellsAsked_13 rfl rfl ?_
    refine q_getIE (mC (pM (σ 1) 6 v) (pM (σ 1) 7 v) (σ 1 1)) (kI := 16) (n := 17) (by decide) dX8_tellsAsked_14 rfl fX8_218 mi0 rfl rfl hm0 ?_
    refine q_icmp_ge (n := 20) (t := 64) dX8_tellsAsked_17 rfl (by decide) (fun h17 => ?_) (fun h17 => ?_)
    · skip
      refine q_aload_n (n := 65) dX8_tellsAsked_64 rfl rfl ?_
      refine q_iload_n (n := 66) dX8_tellsAsked_65 rfl rfl ?_
      refine q_iconst (n := 67) dX8_tellsAsked_66 rfl (k := ?_)
      refine q_v2D (n := 70) dX8_tellsAsked_67 rfl (zX8_vP2 _ σ _ ⟨by omega, by omega⟩) vX8_vertexAt lX8_185 rfl rfl mi0 rfl ?_
      refine q_if_ge (n := 73) (t := 93) dX8_tellsAsked_70 rfl (by decide) (fun h70 => ?_) (fun h70 => ?_)
      · skip
        first
          | (rw [om_up rfl]
             refine (lpX8_te σ _ v lost i ((akA (pM (σ 1) 2) (pM (σ 1) 3) (σ 1 1) (pM (σ 1) 6 v) (pM (σ 1) 7 v)).2.2.2.2 + 1) q_up_s ⟨by omega, by omega⟩).imp ?_
             have ha : (pM (σ 1) 6 v) = -1 := by omega
             rintro r σ' ⟨hr, s', h1, h2, h3, h4⟩
             rw [if_pos ha] at hk2
             refine ⟨hr, s', h1, by omega, fun x x0 x1 => ?_, fun _ => ?_, fun hl => ?_⟩
             · rw [h3 x (by omega), q_up_n (by omega), q_up_n (by omega)]
               exact hag x x0 x1
             · rw [h3 _ (by omega), q_up_n (by omega), q_up_s]
             · rw [if_pos hl] at hk2
               rw [hk2, Int.add_sub_cancel]
               exact h4 hl)
          | (refine (lpX8_te σ s v lost i (akA (pM (σ 1) 2) (pM (σ 1) 3) (σ 1 1) (pM (σ 1) 6 v) (pM (σ 1) 7 v)).2.2.2.2 hk ⟨hA0, by omega⟩).imp ?_
             have ha : ¬ (pM (σ 1) 6 v) = -1 := by omega
             rintro r σ' ⟨hr, s', h1, h2, h3, h4⟩
             rw [if_neg ha, Int.add_zero] at hk2
             refine ⟨hr, s', h1, by omega, fun x x0 x1 => ?_, fun z => absurd z ha, fun hl => ?_⟩
             · rw [h3 x (by omega)]
               exact hag x x0 x1
             · rw [if_pos hl] at hk2
               rw [hk2, Int.add_sub_cancel]
               exact h4 hl)
      · skip
        refine q_aload_n (n := 74) dX8_tellsAsked_73 rfl rfl ?_
        refine q_getR (n := 77) dX8_tellsAsked_74 rfl fX8_54 mi0 rfl ?_
        refine q_aload_n (n := 78) dX8_tellsAsked_77 rfl rfl ?_
        refine q_getIE ((akA (pM (σ 1) 2) (pM (σ 1) 3) (σ 1 1) (pM (σ 1) 6 v) (pM (σ 1) 7 v)).2.2.2.2) (kI := 23) (n := 81) (by decide) dX8_tellsAsked_78 rfl fX8_278 mi0 rfl rfl hk ?_
        refine q_iconst (n := 82) dX8_tellsAsked_81 rfl (k := ?_)
        refine q_iastore (n := 83) dX8_tellsAsked_82 rfl mi11 ⟨by omega, by omega⟩ ?_
        refine q_aload_n (n := 84) dX8_tellsAsked_83 rfl rfl ?_
        rw [om_up rfl]
        refine q_dup (n := 85) dX8_tellsAsked_84 rfl rfl ?_
        refine q_getIE ((akA (pM (σ 1) 2) (pM (σ 1) 3) (σ 1 1) (pM (σ 1) 6 v) (pM (σ 1) 7 v)).2.2.2.2) (kI := 23) (n := 88) (by decide) dX8_tellsAsked_85 rfl fX8_278 mi0 rfl rfl (by rw [om_s rfl, q_up_n (by omega)]; exact hk) ?_
        refine q_iconst (n := 89) dX8_tellsAsked_88 rfl (k := ?_)
        refine q_iaddS (n := 90) dX8_tellsAsked_89 rfl ⟨by omega, by omega⟩ ?_
        refine q_putI (kI := 23) (n := 93) dX8_tellsAsked_90 rfl pX8_278 mi0 rfl rfl ?_
        first
          | (rw [om_up rfl]
             refine (lpX8_te σ _ v lost i ((akA (pM (σ 1) 2) (pM (σ 1) 3) (σ 1 1) (pM (σ 1) 6 v) (pM (σ 1) 7 v)).2.2.2.2 + 1) q_up_s ⟨by omega, by omega⟩).imp ?_
             have ha : (pM (σ 1) 6 v) = -1 := by omega
             rintro r σ' ⟨hr, s', h1, h2, h3, h4⟩
             rw [if_pos ha] at hk2
             refine ⟨hr, s', h1, by omega, fun x x0 x1 => ?_, fun _ => ?_, fun hl => ?_⟩
             · rw [h3 x (by omega), q_up_n (by omega), q_up_n (by omega)]
               exact hag x x0 x1
             · rw [h3 _ (by omega), q_up_n (by omega), q_up_s]
             · rw [if_pos hl] at hk2
               rw [hk2, Int.add_sub_cancel]
               exact h4 hl)
          | (refine (lpX8_te σ s v lost i (akA (pM (σ 1) 2) (pM (σ 1) 3) (σ 1 1) (pM (σ 1) 6 v) (pM (σ 1) 7 v)).2.2.2.2 hk ⟨hA0, by omega⟩).imp ?_
             have ha : ¬ (pM (σ 1) 6 v) = -1 := by omega
             rintro r σ' ⟨hr, s', h1, h2, h3, h4⟩
             rw [if_neg ha, Int.add_zero] at hk2
             refine ⟨hr, s', h1, by omega, fun x x0 x1 => ?_, fun z => absurd z ha, fun hl => ?_⟩
             · rw [h3 x (by omega)]
               exact hag x x0 x1
             · rw [if_pos hl] at hk2
               rw [hk2, Int.add_sub_cancel]
               exact h4 hl)
    · exact absurd h17 (by omega)
  | succ n ih =>
    intro i s A hi h0 hm0 hm hA0 hk hag hA
    have ht0 := hI.mem hv (j := i) ⟨h0, by omega⟩
    have hmi := hm i h0 (by omega)
    obtain ⟨t, ht⟩ : ∃ t, t = mF (pM (σ 1) 6 v) (pM (σ 1) 7 v) (σ 1 1) i := ⟨_, rfl⟩
    rw [← ht] at ht0 hmi
    have hA2 : akL (pM (σ 1) 2) (pM (σ 1) 3) (pM (σ 1) 6 v) (mF (pM (σ 1) 6 v) (pM (σ 1) 7 v) (σ 1 1)) n (i + 1) (akS (pM (σ 1) 2) (pM (σ 1) 3) (pM (σ 1) 6 v) ((mF (pM (σ 1) 6 v) (pM (σ 1) 7 v) (σ 1 1)) i) A) = (akA (pM (σ 1) 2) (pM (σ 1) 3) (σ 1 1) (pM (σ 1) 6 v) (pM (σ 1) 7 v)) := hA
    rw [← ht] at hA2
    have hcap := (akL_keep (f := (pM (σ 1) 2)) (kd := (pM (σ 1) 3)) (g := mF (pM (σ 1) 6 v) (pM (σ 1) 7 v) (σ 1 1)) (a := (pM (σ 1) 6 v)) n (i + 1) (akS (pM (σ 1) 2) (pM (σ 1) 3) (pM (σ 1) 6 v) t A))
    have h51 : (pM (σ 1) 3) t = (if σ 1 (51 + t) = -1 then (12 : Int) else σ 1 (51 + t)) := rfl
    have hkr := hI.2.1 t ht0.1 ht0.2
    refine q_iload_n (n := 13) dX8_tellsAsked_12 rfl rfl ?_
    refine q_aload_n (n := 14) dX8_tellsAsked_13 rfl rfl ?_
    refine q_getIE (mC (pM (σ 1) 6 v) (pM (σ 1) 7 v) (σ 1 1)) (kI := 16) (n := 17) (by decide) dX8_tellsAsked_14 rfl fX8_218 mi0 rfl rfl hm0 ?_
    refine q_icmp_ge (n := 20) (t := 64) dX8_tellsAsked_17 rfl (by decide) (fun h17 => ?_) (fun h17 => ?_)
    · exact absurd h17 (by omega)
    · skip
      refine q_aload_n (n := 21) dX8_tellsAsked_20 rfl rfl ?_
      refine q_aload_n (n := 22) dX8_tellsAsked_21 rfl rfl ?_
      refine q_getR (n := 25) dX8_tellsAsked_22 rfl fX8_48 mi0 rfl ?_
      refine q_iload_n (n := 26) dX8_tellsAsked_25 rfl rfl ?_
      refine q_ialoadE (t) (n := 27) dX8_tellsAsked_26 rfl mi9 ⟨by omega, by omega⟩ hmi ?_
      refine q_v1D (n := 30) dX8_tellsAsked_27 rfl (zX8_kindOf _ σ _ (by omega)) vX8_kindOf lX8_164 rfl rfl mi0 rfl ?_
      refine q_if_ge (n := 33) (t := 58) dX8_tellsAsked_30 rfl (by decide) (fun h30 => ?_) (fun h30 => ?_)
      · have hz : (pM (σ 1) 3) t ≠ 12 := by
          rw [h51, if_neg (by omega)]
          omega
        have eS : akS (pM (σ 1) 2) (pM (σ 1) 3) (pM (σ 1) 6 v) t A = (addE A.1 (if t = (pM (σ 1) 6 v) then 1 else -1) ((pM (σ 1) 3) t), A.2) := by unfold akS; rw [if_neg hz]
        first
          | rw [om_up rfl]
          | skip
        refine q_iinc (n := 61) dX8_tellsAsked_58 rfl (Nat.le_of_ble_eq_true rfl) rfl (q_nwid ⟨by omega, by omega⟩) (q_s1_s (q_s1_s (q_s1_1 rfl))) ?_
        refine q_go (t := 12) dX8_tellsAsked_61 (by decide) ?_
        first
          | (refine ih (i + 1) s (akS (pM (σ 1) 2) (pM (σ 1) 3) (pM (σ 1) 6 v) t A) (by omega) (by omega) hm0 hm ?_ ?_ ?_ hA2
             · rw [eS]; exact hA0
             · rw [eS]; exact hk
             · rw [eS]; exact hag)
          | (refine ih (i + 1) _ (akS (pM (σ 1) 2) (pM (σ 1) 3) (pM (σ 1) 6 v) t A) (by omega) (by omega) ?_ ?_ (by omega) ?_ ?_ hA2
             · rw [q_up_n (by omega), q_up_n (by omega)]; exact hm0
             · intro j j0 j1
               rw [q_up_n (by omega), q_up_n (by omega)]
               exact hm j j0 j1
             · rw [q_up_s, ek]
             · intro x x0 x1
               rw [ek] at x1
               rw [q_up_n (by omega), eS]
               show _ = ud A.2.1 A.2.2.2.2 t x
               by_cases e : x = A.2.2.2.2
               · rw [e, q_up_s]
                 exact ud_s.symm
               · rw [q_up_n (fun z => e z.2), hag x x0 (by omega)]
                 exact (if_neg e).symm)
      · have hz : (pM (σ 1) 3) t = 12 := by
          rw [h51, if_pos (by omega)]
        have eS : akS (pM (σ 1) 2) (pM (σ 1) 3) (pM (σ 1) 6 v) t A = pushA A t (sgn (lB (pM (σ 1) 2) (6 * t))) (if t = (pM (σ 1) 6 v) then 1 else -1) := by unfold akS; rw [if_pos hz]
        have ek : (akS (pM (σ 1) 2) (pM (σ 1) 3) (pM (σ 1) 6 v) t A).2.2.2.2 = A.2.2.2.2 + 1 := by rw [eS]; rfl
        have hcap := (hcap (by omega)).1
        rw [hA2] at hcap
        refine q_aload_n (n := 34) dX8_tellsAsked_33 rfl rfl ?_
        refine q_getR (n := 37) dX8_tellsAsked_34 rfl fX8_54 mi0 rfl ?_
        refine q_aload_n (n := 38) dX8_tellsAsked_37 rfl rfl ?_
        refine q_getIE (A.2.2.2.2) (kI := 23) (n := 41) (by decide) dX8_tellsAsked_38 rfl fX8_278 mi0 rfl rfl hk ?_
        refine q_aload_n (n := 42) dX8_tellsAsked_41 rfl rfl ?_
        refine q_getR (n := 45) dX8_tellsAsked_42 rfl fX8_48 mi0 rfl ?_
        refine q_iload_n (n := 46) dX8_tellsAsked_45 rfl rfl ?_
        refine q_ialoadE (t) (n := 47) dX8_tellsAsked_46 rfl mi9 ⟨by omega, by omega⟩ hmi ?_
        refine q_iastore (n := 48) dX8_tellsAsked_47 rfl mi11 ⟨by omega, by omega⟩ ?_
        rw [om_up rfl]
        refine q_aload_n (n := 49) dX8_tellsAsked_48 rfl rfl ?_
        refine q_dup (n := 50) dX8_tellsAsked_49 rfl rfl ?_
        refine q_getIE (A.2.2.2.2) (kI := 23) (n := 53) (by decide) dX8_tellsAsked_50 rfl fX8_278 mi0 rfl rfl (by rw [om_s rfl, q_up_n (by omega)]; exact hk) ?_
        refine q_iconst (n := 54) dX8_tellsAsked_53 rfl (k := ?_)
        refine q_iaddS (n := 55) dX8_tellsAsked_54 rfl ⟨by omega, by omega⟩ ?_
        refine q_putI (kI := 23) (n := 58) dX8_tellsAsked_55 rfl pX8_278 mi0 rfl rfl ?_
        first
          | rw [om_up rfl]
          | skip
        refine q_iinc (n := 61) dX8_tellsAsked_58 rfl (Nat.le_of_ble_eq_true rfl) rfl (q_nwid ⟨by omega, by omega⟩) (q_s1_s (q_s1_s (q_s1_1 rfl))) ?_
        refine q_go (t := 12) dX8_tellsAsked_61 (by decide) ?_
        first
          | (refine ih (i + 1) s (akS (pM (σ 1) 2) (pM (σ 1) 3) (pM (σ 1) 6 v) t A) (by omega) (by omega) hm0 hm ?_ ?_ ?_ hA2
             · rw [eS]; exact hA0
             · rw [eS]; exact hk
             · rw [eS]; exact hag)
          | (refine ih (i + 1) _ (akS (pM (σ 1) 2) (pM (σ 1) 3) (pM (σ 1) 6 v) t A) (by omega) (by omega) ?_ ?_ (by omega) ?_ ?_ hA2
             · rw [q_up_n (by omega), q_up_n (by omega)]; exact hm0
             · intro j j0 j1
               rw [q_up_n (by omega), q_up_n (by omega)]
               exact hm j j0 j1
             · rw [q_up_s, ek]
             · intro x x0 x1
               rw [ek] at x1
               rw [q_up_n (by omega), eS]
               show _ = ud A.2.1 A.2.2.2.2 t x
               by_cases e : x = A.2.2.2.2
               · rw [e, q_up_s]
                 exact ud_s.symm
               · rw [q_up_n (fun z => e z.2), hag x x0 (by omega)]
                 exact (if_neg e).symm)
set_option maxRecDepth 100000 in
theorem zX8_tellsAsked (v lost : Int) (σ s : q_S) (hI : IM σ) (hv : 0 ≤ v ∧ v < σ 1 2) (hk3 : (akA (pM (σ 1) 2) (pM (σ 1) 3) (σ 1 1) (pM (σ 1) 6 v) (pM (σ 1) 7 v)).2.2.2.2 ≤ 3) : q_Ct mX8_tellsAsked shM [.inr (.inr 0), .inl v, .inl lost] (ovM σ s) (fun r σ' => r = none ∧ (∃ s', σ' = ovM σ s' ∧ askM s' (akA (pM (σ 1) 2) (pM (σ 1) 3) (σ 1 1) (pM (σ 1) 6 v) (pM (σ 1) 7 v)) (pM (σ 1) 6 v) lost)) := by
  refine q_ct 1 (by decide) rfl rfl ?_
  show q_WP mX8_tellsAsked shM 0 [some (.inr (.inr 0)), some (.inl v), some (.inl lost), none] [] (ovM σ s) _
  have hn := hI.nt
  have hvv := hI.nv
  have hvt := hI.tie hv
  have hmc := mem_C hn hvt.2.2
  refine q_aload_n (n := 1) dX8_tellsAsked_0 rfl rfl ?_
  refine q_iload_n (n := 2) dX8_tellsAsked_1 rfl rfl ?_
  refine q_v1W (n := 5) dX8_tellsAsked_2 rfl (zX8_tellsThose v σ _ hI hv) vX8_tellsThose lX8_221 rfl rfl mi0 rfl (fun σ2 h2 => ?_)
  obtain ⟨s1, rfl, ⟨hm0, hm⟩, hfr1⟩ := h2
  · skip
    refine q_aload_n (n := 6) dX8_tellsAsked_5 rfl rfl ?_
    refine q_iconst (n := 7) dX8_tellsAsked_6 rfl (k := ?_)
    refine q_putI (kI := 23) (n := 10) dX8_tellsAsked_7 rfl pX8_278 mi0 rfl rfl ?_
    rw [om_up rfl]
    refine q_iconst (n := 11) dX8_tellsAsked_10 rfl (k := ?_)
    refine q_istore_n (n := 12) dX8_tellsAsked_11 rfl (Nat.le_of_ble_eq_true rfl) (q_s1_s (q_s1_s (q_s1_1 rfl))) ?_
    refine lpX8_ta σ v lost hI hv hk3 (mC (pM (σ 1) 6 v) (pM (σ 1) 7 v) (σ 1 1)).toNat 0 _ A0 (by omega) (by decide) ?_ ?_ (by decide) q_up_s (fun x x0 x1 => absurd x1 (by show ¬ x < 0; omega)) rfl
    · rw [q_up_n (by decide)]
      exact hm0
    · intro j j0 j1
      rw [q_up_n (by omega)]
      exact hm j j0 j1
