set_option maxRecDepth 100000 in
theorem zX7_canBeNamed (v L w : Int) (σ s : q_S) : q_Ct mX7_canBeNamed shX [.inr (.inr 0), .inl v, .inl L, .inl w] (ov σ s) (fun r σ' => r = some (.inl (if (0 ≤ v ∧ v < σ 1 2) ∧ (0 ≤ L ∧ L < 3) ∧ (w = 0 ∨ w = 1) then 1 else 0)) ∧ σ' = ov σ s) := by
  refine q_ct 0 (by decide) rfl rfl ?_
  show q_WP mX7_canBeNamed shX 0 [some (.inr (.inr 0)), some (.inl v), some (.inl L), some (.inl w)] [] (ov σ s) _
  refine q_aload_n (n := 1) dX7_canBeNamed_0 rfl rfl ?_
  refine q_getR (n := 4) dX7_canBeNamed_1 rfl fX7_12 xi0 rfl ?_
  refine q_iload_n (n := 5) dX7_canBeNamed_4 rfl rfl ?_
  refine q_v1D (n := 8) dX7_canBeNamed_5 rfl (zO_hasVertex _ _ _) vX3_hasVertex lX7_135 rfl rfl xi1 rfl ?_
  refine q_if_eq (n := 11) (t := 31) dX7_canBeNamed_8 rfl (by decide) (fun h8 => ?_) (fun h8 => ?_)
  · have h8 := q_b0.mp h8
    refine q_iconst (n := 32) dX7_canBeNamed_31 rfl (k := ?_)
    refine q_iret dX7_canBeNamed_32 rfl (fun _ => rfl) ?_
    first | exact ⟨q_lf1 ⟨by assumption, by assumption, by omega⟩, rfl⟩ | exact ⟨q_lf0 (fun z => by first | exact absurd z.1 (by assumption) | exact absurd z.2.1 (by assumption) | omega), rfl⟩
  · have h8 := q_b1.mp h8
    refine q_iload_n (n := 12) dX7_canBeNamed_11 rfl rfl ?_
    refine q_c1D (n := 15) dX7_canBeNamed_12 rfl (zX7_isLaw _ _) vX7_isLaw lX7_243 rfl rfl ?_
    refine q_if_eq (n := 18) (t := 31) dX7_canBeNamed_15 rfl (by decide) (fun h15 => ?_) (fun h15 => ?_)
    · have h15 := q_b0.mp h15
      refine q_iconst (n := 32) dX7_canBeNamed_31 rfl (k := ?_)
      refine q_iret dX7_canBeNamed_32 rfl (fun _ => rfl) ?_
      first | exact ⟨q_lf1 ⟨by assumption, by assumption, by omega⟩, rfl⟩ | exact ⟨q_lf0 (fun z => by first | exact absurd z.1 (by assumption) | exact absurd z.2.1 (by assumption) | omega), rfl⟩
    · have h15 := q_b1.mp h15
      refine q_iload_n (n := 19) dX7_canBeNamed_18 rfl rfl ?_
      refine q_if_eq (n := 22) (t := 27) dX7_canBeNamed_19 rfl (by decide) (fun h19 => ?_) (fun h19 => ?_)
      · skip
        refine q_iconst (n := 28) dX7_canBeNamed_27 rfl (k := ?_)
        refine q_go (t := 32) dX7_canBeNamed_28 (by decide) ?_
        refine q_iret dX7_canBeNamed_32 rfl (fun _ => rfl) ?_
        first | exact ⟨q_lf1 ⟨by assumption, by assumption, by omega⟩, rfl⟩ | exact ⟨q_lf0 (fun z => by first | exact absurd z.1 (by assumption) | exact absurd z.2.1 (by assumption) | omega), rfl⟩
      · skip
        refine q_iload_n (n := 23) dX7_canBeNamed_22 rfl rfl ?_
        refine q_iconst (n := 24) dX7_canBeNamed_23 rfl (k := ?_)
        refine q_icmp_ne (n := 27) (t := 31) dX7_canBeNamed_24 rfl (by decide) (fun h24 => ?_) (fun h24 => ?_)
        · skip
          refine q_iconst (n := 32) dX7_canBeNamed_31 rfl (k := ?_)
          refine q_iret dX7_canBeNamed_32 rfl (fun _ => rfl) ?_
          first | exact ⟨q_lf1 ⟨by assumption, by assumption, by omega⟩, rfl⟩ | exact ⟨q_lf0 (fun z => by first | exact absurd z.1 (by assumption) | exact absurd z.2.1 (by assumption) | omega), rfl⟩
        · skip
          refine q_iconst (n := 28) dX7_canBeNamed_27 rfl (k := ?_)
          refine q_go (t := 32) dX7_canBeNamed_28 (by decide) ?_
          refine q_iret dX7_canBeNamed_32 rfl (fun _ => rfl) ?_
          first | exact ⟨q_lf1 ⟨by assumption, by assumption, by omega⟩, rfl⟩ | exact ⟨q_lf0 (fun z => by first | exact absurd z.1 (by assumption) | exact absurd z.2.1 (by assumption) | omega), rfl⟩
theorem bE {E : Int → Int} {N sd k : Int} (h : ∀ j, 0 ≤ j → j < 4 → q_bd (E j) N) (hs : q_bd sd 1) (hk : 0 ≤ k ∧ k < 12) : ∀ j, 0 ≤ j → j < 4 → q_bd ((addE E sd k) j) (N + 1) := by
  intro j x y
  unfold addE
  rw [if_pos ⟨x, y⟩]
  exact bd_add (h j x y) (bd_mul hs (num_bd hk ⟨x, y⟩) (C := 1) (by decide)) (by omega)
theorem p1 : q_bd 1 1 := ⟨by decide, by decide⟩
theorem m1 : q_bd (-1) 1 := ⟨by decide, by decide⟩
set_option maxHeartbeats 2000000 in
set_option maxRecDepth 100000 in
theorem zX7_holds (v L u w : Int) (σ s : q_S) (hI : IX σ) : q_Ct mX7_holds shX [.inr (.inr 0), .inl v, .inl L, .inl u, .inl w] (ov σ s) (fun r σ' => r = some (.inl (fHolds (σ 1 1) (σ 1 2) (σ 2) (σ 3) (σ 6) (σ 7) v L u w)) ∧ ∃ s', σ' = ov σ s') := by
  refine q_ct 1 (by decide) rfl rfl ?_
  show q_WP mX7_holds shX 0 [some (.inr (.inr 0)), some (.inl v), some (.inl L), some (.inl u), some (.inl w), none] [] (ov σ s) _
  have hI0 := hI
  have hvv := hI.1.2.2.1
  refine q_aload_n (n := 1) dX7_holds_0 rfl rfl ?_
  refine q_getR (n := 4) dX7_holds_1 rfl fX7_12 xi0 rfl ?_
  refine q_iload_n (n := 5) dX7_holds_4 rfl rfl ?_
  refine q_v1D (n := 8) dX7_holds_5 rfl (zO_hasVertex _ _ _) vX3_hasVertex lX7_135 rfl rfl xi1 rfl ?_
  refine q_if_eq (n := 11) (t := 32) dX7_holds_8 rfl (by decide) (fun h8 => ?_) (fun h8 => ?_)
  · have h8 := q_b0.mp h8
    refine q_iconst (n := 33) dX7_holds_32 rfl (k := ?_)
    refine q_iret dX7_holds_33 rfl (fun _ => rfl) ?_
    refine ⟨congrArg some (congrArg Sum.inl (Eq.symm ?_)), _, rfl⟩
    unfold fHolds
    have hb : ¬ (0 ≤ v ∧ v < σ 1 2) ∨ ¬ (0 ≤ L ∧ L < 3) ∨ ¬ (w = -1 ∨ (0 ≤ w ∧ w < 12) ∧ num w 0 = 0) ∨ (σ 6 v = -1 ∧ ¬ ((0 ≤ u ∧ u < 12) ∧ num u 0 = 0)) := by
      first
        | exact Or.inl h8
        | exact Or.inr (Or.inl h15)
        | exact Or.inr (Or.inr (Or.inl (fun z => z.elim h21 h29)))
    exact if_pos hb
  · have h8 := q_b1.mp h8
    have hv := h8
    have hA := hI0.aks hv
    have hc := mem_C hI.1.2.1 (hI.tie hv).2.2
    have hE1 : ∀ j, 0 ≤ j → j < 4 → q_bd ((akA (σ 2) (σ 3) (σ 1 1) (σ 6 v) (σ 7 v)).1 j) 4 := fun j x y => bd_le (hA.2.1 j x y) (by omega)
    refine q_iload_n (n := 12) dX7_holds_11 rfl rfl ?_
    refine q_c1D (n := 15) dX7_holds_12 rfl (zX7_isLaw _ _) vX7_isLaw lX7_243 rfl rfl ?_
    refine q_if_eq (n := 18) (t := 32) dX7_holds_15 rfl (by decide) (fun h15 => ?_) (fun h15 => ?_)
    · have h15 := q_b0.mp h15
      refine q_iconst (n := 33) dX7_holds_32 rfl (k := ?_)
      refine q_iret dX7_holds_33 rfl (fun _ => rfl) ?_
      refine ⟨congrArg some (congrArg Sum.inl (Eq.symm ?_)), _, rfl⟩
      unfold fHolds
      have hb : ¬ (0 ≤ v ∧ v < σ 1 2) ∨ ¬ (0 ≤ L ∧ L < 3) ∨ ¬ (w = -1 ∨ (0 ≤ w ∧ w < 12) ∧ num w 0 = 0) ∨ (σ 6 v = -1 ∧ ¬ ((0 ≤ u ∧ u < 12) ∧ num u 0 = 0)) := by
        first
          | exact Or.inl h8
          | exact Or.inr (Or.inl h15)
          | exact Or.inr (Or.inr (Or.inl (fun z => z.elim h21 h29)))
      exact if_pos hb
    · have h15 := q_b1.mp h15
      refine q_iload (n := 20) dX7_holds_18 rfl rfl ?_
      refine q_iconst (n := 21) dX7_holds_20 rfl (k := ?_)
      refine q_icmp_eq (n := 24) (t := 34) dX7_holds_21 rfl (by decide) (fun h21 => ?_) (fun h21 => ?_)
      · skip
        refine q_aload_n (n := 35) dX7_holds_34 rfl rfl ?_
        refine q_getR (n := 38) dX7_holds_35 rfl fX7_12 xi0 rfl ?_
        refine q_getR (n := 41) dX7_holds_38 rfl fX7_144 xi1 rfl ?_
        refine q_iload_n (n := 42) dX7_holds_41 rfl rfl ?_
        refine q_ialoadF (σ 6) (n := 43) dX7_holds_42 rfl xi6 ⟨by omega, by omega⟩ rfl ?_
        refine q_iconst (n := 44) dX7_holds_43 rfl (k := ?_)
        refine q_icmp_ne (n := 47) (t := 51) dX7_holds_44 rfl (by decide) (fun h44 => ?_) (fun h44 => ?_)
        · have h44 : ¬ σ 6 v = -1 := h44
          refine q_iconst (n := 52) dX7_holds_51 rfl (k := ?_)
          refine q_istore (n := 54) dX7_holds_52 rfl (Nat.le_of_ble_eq_true rfl) (q_s1_s (q_s1_s (q_s1_s (q_s1_s (q_s1_1 rfl))))) ?_
          refine q_iload (n := 56) dX7_holds_54 rfl rfl ?_
          refine q_if_eq (n := 59) (t := 68) dX7_holds_56 rfl (by decide) (fun h56 => ?_) (fun h56 => ?_)
          · skip
            have hok : ¬ (¬ (0 ≤ v ∧ v < σ 1 2) ∨ ¬ (0 ≤ L ∧ L < 3) ∨ ¬ (w = -1 ∨ (0 ≤ w ∧ w < 12) ∧ num w 0 = 0) ∨ (σ 6 v = -1 ∧ ¬ ((0 ≤ u ∧ u < 12) ∧ num u 0 = 0))) := by
              intro z
              rcases z with z | z | z | z
              · exact z h8
              · exact z h15
              · first | exact z (Or.inl h21) | exact z (Or.inr h29)
              · first | exact h44 z.1 | exact z.2 h60
            refine q_aload_n (n := 69) dX7_holds_68 rfl rfl ?_
            refine q_iload_n (n := 70) dX7_holds_69 rfl rfl ?_
            refine q_iload_n (n := 71) dX7_holds_70 rfl rfl ?_
            refine q_v2 (n := 74) dX7_holds_71 rfl (zX7_askTracks v L _ _ hI0 hv) vX7_askTracks lX7_249 rfl rfl xi0 rfl (fun v71 σ71 h71 => ?_)
            obtain ⟨rfl, s1, rfl, hr⟩ := h71
            · skip
              refine q_if_le (n := 77) (t := 80) dX7_holds_74 rfl (by decide) (fun h74 => ?_) (fun h74 => ?_)
              · skip
                refine q_iload (n := 82) dX7_holds_80 rfl rfl ?_
                refine q_if_eq (n := 85) (t := 94) dX7_holds_82 rfl (by decide) (fun h82 => ?_) (fun h82 => ?_)
                · skip
                  refine q_iload (n := 96) dX7_holds_94 rfl rfl ?_
                  refine q_iconst (n := 97) dX7_holds_96 rfl (k := ?_)
                  refine q_icmp_eq (n := 100) (t := 110) dX7_holds_97 rfl (by decide) (fun h97 => ?_) (fun h97 => ?_)
                  · skip
                    refine q_aload_n (n := 111) dX7_holds_110 rfl rfl ?_
                    refine q_getR (n := 114) dX7_holds_111 rfl fX7_55 xi0 rfl ?_
                    refine q_v0D (n := 117) dX7_holds_114 rfl (zC_isLawful _ _ _ L (by first | exact hr3 | exact hr2 | exact hr) (by first | exact (fun j x y => bd_le (hE3 j x y) (by decide)) | exact (fun j x y => bd_le (hE2 j x y) (by decide)) | exact (fun j x y => bd_le (hE1 j x y) (by decide)))) vX2_isLawful lX7_256 rfl rfl xi84 rfl ?_
                    refine q_if_eq (n := 120) (t := 124) dX7_holds_117 rfl (by decide) (fun h117 => ?_) (fun h117 => ?_)
                    · have h117 := q_b0.mp h117
                      refine q_iconst (n := 125) dX7_holds_124 rfl (k := ?_)
                      refine q_iret dX7_holds_125 rfl (fun _ => rfl) ?_
                      refine ⟨congrArg some (congrArg Sum.inl (Eq.symm ?_)), _, rfl⟩
                      unfold fHolds
                      rw [if_neg hok, if_neg (by omega)]
                      unfold hoE
                      first
                        | (rw [if_pos h97, if_pos h44]; first | exact if_pos h117 | exact if_neg h117)
                        | (rw [if_pos h97, if_neg h44]; first | exact if_pos h117 | exact if_neg h117)
                        | (rw [if_neg h97, if_pos h44]; first | exact if_pos h117 | exact if_neg h117)
                        | (rw [if_neg h97, if_neg h44]; first | exact if_pos h117 | exact if_neg h117)
                    · have h117 := q_b1.mp h117
                      refine q_iconst (n := 121) dX7_holds_120 rfl (k := ?_)
                      refine q_go (t := 125) dX7_holds_121 (by decide) ?_
                      refine q_iret dX7_holds_125 rfl (fun _ => rfl) ?_
                      refine ⟨congrArg some (congrArg Sum.inl (Eq.symm ?_)), _, rfl⟩
                      unfold fHolds
                      rw [if_neg hok, if_neg (by omega)]
                      unfold hoE
                      first
                        | (rw [if_pos h97, if_pos h44]; first | exact if_pos h117 | exact if_neg h117)
                        | (rw [if_pos h97, if_neg h44]; first | exact if_pos h117 | exact if_neg h117)
                        | (rw [if_neg h97, if_pos h44]; first | exact if_pos h117 | exact if_neg h117)
                        | (rw [if_neg h97, if_neg h44]; first | exact if_pos h117 | exact if_neg h117)
                  · have hk9 : 0 ≤ w ∧ w < 12 := by first | exact h29.1 | (exfalso; omega)
                    refine q_aload_n (n := 101) dX7_holds_100 rfl rfl ?_
                    refine q_getR (n := 104) dX7_holds_101 rfl fX7_55 xi0 rfl ?_
                    refine q_iload (n := 106) dX7_holds_104 rfl rfl ?_
                    refine q_iconst (n := 107) dX7_holds_106 rfl (k := ?_)
                    refine q_v2W (n := 110) dX7_holds_107 rfl (zC_weigh _ _ _ L _ _ (by first | exact hr2 | exact hr) hk9 m1 (by first | exact (fun j x y => bd_le (hE2 j x y) (by decide)) | exact (fun j x y => bd_le (hE1 j x y) (by decide)))) vX2_weigh lX7_252 rfl rfl xi84 rfl (fun σ107 h107 => ?_)
                    obtain ⟨s3, rfl, hr3, _⟩ := h107
                    first
                      | (have hE3 := bE hE2 m1 hk9)
                      | (have hE3 := bE hE1 m1 hk9)
                    · skip
                      refine q_aload_n (n := 111) dX7_holds_110 rfl rfl ?_
                      refine q_getR (n := 114) dX7_holds_111 rfl fX7_55 xi0 rfl ?_
                      refine q_v0D (n := 117) dX7_holds_114 rfl (zC_isLawful _ _ _ L (by first | exact hr3 | exact hr2 | exact hr) (by first | exact (fun j x y => bd_le (hE3 j x y) (by decide)) | exact (fun j x y => bd_le (hE2 j x y) (by decide)) | exact (fun j x y => bd_le (hE1 j x y) (by decide)))) vX2_isLawful lX7_256 rfl rfl xi84 rfl ?_
                      refine q_if_eq (n := 120) (t := 124) dX7_holds_117 rfl (by decide) (fun h117 => ?_) (fun h117 => ?_)
                      · have h117 := q_b0.mp h117
                        refine q_iconst (n := 125) dX7_holds_124 rfl (k := ?_)
                        refine q_iret dX7_holds_125 rfl (fun _ => rfl) ?_
                        refine ⟨congrArg some (congrArg Sum.inl (Eq.symm ?_)), _, rfl⟩
                        unfold fHolds
                        rw [if_neg hok, if_neg (by omega)]
                        unfold hoE
                        first
                          | (rw [if_pos h97, if_pos h44]; first | exact if_pos h117 | exact if_neg h117)
                          | (rw [if_pos h97, if_neg h44]; first | exact if_pos h117 | exact if_neg h117)
                          | (rw [if_neg h97, if_pos h44]; first | exact if_pos h117 | exact if_neg h117)
                          | (rw [if_neg h97, if_neg h44]; first | exact if_pos h117 | exact if_neg h117)
                      · have h117 := q_b1.mp h117
                        refine q_iconst (n := 121) dX7_holds_120 rfl (k := ?_)
                        refine q_go (t := 125) dX7_holds_121 (by decide) ?_
                        refine q_iret dX7_holds_125 rfl (fun _ => rfl) ?_
                        refine ⟨congrArg some (congrArg Sum.inl (Eq.symm ?_)), _, rfl⟩
                        unfold fHolds
                        rw [if_neg hok, if_neg (by omega)]
                        unfold hoE
                        first
                          | (rw [if_pos h97, if_pos h44]; first | exact if_pos h117 | exact if_neg h117)
                          | (rw [if_pos h97, if_neg h44]; first | exact if_pos h117 | exact if_neg h117)
                          | (rw [if_neg h97, if_pos h44]; first | exact if_pos h117 | exact if_neg h117)
                          | (rw [if_neg h97, if_neg h44]; first | exact if_pos h117 | exact if_neg h117)
                · exact absurd h82 (by decide)
              · skip
                refine q_bipush (n := 79) dX7_holds_77 rfl (k := ?_)
                refine q_iret dX7_holds_79 rfl (fun _ => rfl) ?_
                refine ⟨congrArg some (congrArg Sum.inl (Eq.symm ?_)), _, rfl⟩
                unfold fHolds
                rw [if_neg hok, if_pos (by omega)]
          · exact absurd h56 (by decide)
        · have h44 : σ 6 v = -1 := h44
          refine q_iconst (n := 48) dX7_holds_47 rfl (k := ?_)
          refine q_go (t := 52) dX7_holds_48 (by decide) ?_
          refine q_istore (n := 54) dX7_holds_52 rfl (Nat.le_of_ble_eq_true rfl) (q_s1_s (q_s1_s (q_s1_s (q_s1_s (q_s1_1 rfl))))) ?_
          refine q_iload (n := 56) dX7_holds_54 rfl rfl ?_
          refine q_if_eq (n := 59) (t := 68) dX7_holds_56 rfl (by decide) (fun h56 => ?_) (fun h56 => ?_)
          · exact absurd h56 (by decide)
          · skip
            refine q_iload_n (n := 60) dX7_holds_59 rfl rfl ?_
            refine q_c1D (n := 63) dX7_holds_60 rfl (zX7_isNeutral _ _) vX7_isNeutral lX7_246 rfl rfl ?_
            refine q_if_ne (n := 66) (t := 68) dX7_holds_63 rfl (by decide) (fun h63 => ?_) (fun h63 => ?_)
            · have h60 := q_b1.mp h63
              have hok : ¬ (¬ (0 ≤ v ∧ v < σ 1 2) ∨ ¬ (0 ≤ L ∧ L < 3) ∨ ¬ (w = -1 ∨ (0 ≤ w ∧ w < 12) ∧ num w 0 = 0) ∨ (σ 6 v = -1 ∧ ¬ ((0 ≤ u ∧ u < 12) ∧ num u 0 = 0))) := by
                intro z
                rcases z with z | z | z | z
                · exact z h8
                · exact z h15
                · exact z (by first | exact Or.inl h21 | exact Or.inr h29)
                · first | exact h44 z.1 | exact z.2 h60
              have hok : ¬ (¬ (0 ≤ v ∧ v < σ 1 2) ∨ ¬ (0 ≤ L ∧ L < 3) ∨ ¬ (w = -1 ∨ (0 ≤ w ∧ w < 12) ∧ num w 0 = 0) ∨ (σ 6 v = -1 ∧ ¬ ((0 ≤ u ∧ u < 12) ∧ num u 0 = 0))) := by
                intro z
                rcases z with z | z | z | z
                · exact z h8
                · exact z h15
                · first | exact z (Or.inl h21) | exact z (Or.inr h29)
                · first | exact h44 z.1 | exact z.2 h60
              refine q_aload_n (n := 69) dX7_holds_68 rfl rfl ?_
              refine q_iload_n (n := 70) dX7_holds_69 rfl rfl ?_
              refine q_iload_n (n := 71) dX7_holds_70 rfl rfl ?_
              refine q_v2 (n := 74) dX7_holds_71 rfl (zX7_askTracks v L _ _ hI0 hv) vX7_askTracks lX7_249 rfl rfl xi0 rfl (fun v71 σ71 h71 => ?_)
              obtain ⟨rfl, s1, rfl, hr⟩ := h71
              · skip
                refine q_if_le (n := 77) (t := 80) dX7_holds_74 rfl (by decide) (fun h74 => ?_) (fun h74 => ?_)
                · skip
                  refine q_iload (n := 82) dX7_holds_80 rfl rfl ?_
                  refine q_if_eq (n := 85) (t := 94) dX7_holds_82 rfl (by decide) (fun h82 => ?_) (fun h82 => ?_)
                  · exact absurd h82 (by decide)
                  · skip
                    refine q_aload_n (n := 86) dX7_holds_85 rfl rfl ?_
                    refine q_getR (n := 89) dX7_holds_86 rfl fX7_55 xi0 rfl ?_
                    refine q_iload_n (n := 90) dX7_holds_89 rfl rfl ?_
                    refine q_iconst (n := 91) dX7_holds_90 rfl (k := ?_)
                    refine q_v2W (n := 94) dX7_holds_91 rfl (zC_weigh _ _ (akA (σ 2) (σ 3) (σ 1 1) (σ 6 v) (σ 7 v)) L _ _ hr h60.1 p1 (fun j x y => bd_le (hE1 j x y) (by decide))) vX2_weigh lX7_252 rfl rfl xi84 rfl (fun σ91 h91 => ?_)
                    obtain ⟨s2, rfl, hr2, _⟩ := h91
                    have hE2 := bE hE1 p1 h60.1
                    · skip
                      refine q_iload (n := 96) dX7_holds_94 rfl rfl ?_
                      refine q_iconst (n := 97) dX7_holds_96 rfl (k := ?_)
                      refine q_icmp_eq (n := 100) (t := 110) dX7_holds_97 rfl (by decide) (fun h97 => ?_) (fun h97 => ?_)
                      · skip
                        refine q_aload_n (n := 111) dX7_holds_110 rfl rfl ?_
                        refine q_getR (n := 114) dX7_holds_111 rfl fX7_55 xi0 rfl ?_
                        refine q_v0D (n := 117) dX7_holds_114 rfl (zC_isLawful _ _ _ L (by first | exact hr3 | exact hr2 | exact hr) (by first | exact (fun j x y => bd_le (hE3 j x y) (by decide)) | exact (fun j x y => bd_le (hE2 j x y) (by decide)) | exact (fun j x y => bd_le (hE1 j x y) (by decide)))) vX2_isLawful lX7_256 rfl rfl xi84 rfl ?_
                        refine q_if_eq (n := 120) (t := 124) dX7_holds_117 rfl (by decide) (fun h117 => ?_) (fun h117 => ?_)
                        · have h117 := q_b0.mp h117
                          refine q_iconst (n := 125) dX7_holds_124 rfl (k := ?_)
                          refine q_iret dX7_holds_125 rfl (fun _ => rfl) ?_
                          refine ⟨congrArg some (congrArg Sum.inl (Eq.symm ?_)), _, rfl⟩
                          unfold fHolds
                          rw [if_neg hok, if_neg (by omega)]
                          unfold hoE
                          first
                            | (rw [if_pos h97, if_pos h44]; first | exact if_pos h117 | exact if_neg h117)
                            | (rw [if_pos h97, if_neg h44]; first | exact if_pos h117 | exact if_neg h117)
                            | (rw [if_neg h97, if_pos h44]; first | exact if_pos h117 | exact if_neg h117)
                            | (rw [if_neg h97, if_neg h44]; first | exact if_pos h117 | exact if_neg h117)
                        · have h117 := q_b1.mp h117
                          refine q_iconst (n := 121) dX7_holds_120 rfl (k := ?_)
                          refine q_go (t := 125) dX7_holds_121 (by decide) ?_
                          refine q_iret dX7_holds_125 rfl (fun _ => rfl) ?_
                          refine ⟨congrArg some (congrArg Sum.inl (Eq.symm ?_)), _, rfl⟩
                          unfold fHolds
                          rw [if_neg hok, if_neg (by omega)]
                          unfold hoE
                          first
                            | (rw [if_pos h97, if_pos h44]; first | exact if_pos h117 | exact if_neg h117)
                            | (rw [if_pos h97, if_neg h44]; first | exact if_pos h117 | exact if_neg h117)
                            | (rw [if_neg h97, if_pos h44]; first | exact if_pos h117 | exact if_neg h117)
                            | (rw [if_neg h97, if_neg h44]; first | exact if_pos h117 | exact if_neg h117)
                      · have hk9 : 0 ≤ w ∧ w < 12 := by first | exact h29.1 | (exfalso; omega)
                        refine q_aload_n (n := 101) dX7_holds_100 rfl rfl ?_
                        refine q_getR (n := 104) dX7_holds_101 rfl fX7_55 xi0 rfl ?_
                        refine q_iload (n := 106) dX7_holds_104 rfl rfl ?_
                        refine q_iconst (n := 107) dX7_holds_106 rfl (k := ?_)
                        refine q_v2W (n := 110) dX7_holds_107 rfl (zC_weigh _ _ _ L _ _ (by first | exact hr2 | exact hr) hk9 m1 (by first | exact (fun j x y => bd_le (hE2 j x y) (by decide)) | exact (fun j x y => bd_le (hE1 j x y) (by decide)))) vX2_weigh lX7_252 rfl rfl xi84 rfl (fun σ107 h107 => ?_)
                        obtain ⟨s3, rfl, hr3, _⟩ := h107
                        first
                          | (have hE3 := bE hE2 m1 hk9)
                          | (have hE3 := bE hE1 m1 hk9)
                        · skip
                          refine q_aload_n (n := 111) dX7_holds_110 rfl rfl ?_
                          refine q_getR (n := 114) dX7_holds_111 rfl fX7_55 xi0 rfl ?_
                          refine q_v0D (n := 117) dX7_holds_114 rfl (zC_isLawful _ _ _ L (by first | exact hr3 | exact hr2 | exact hr) (by first | exact (fun j x y => bd_le (hE3 j x y) (by decide)) | exact (fun j x y => bd_le (hE2 j x y) (by decide)) | exact (fun j x y => bd_le (hE1 j x y) (by decide)))) vX2_isLawful lX7_256 rfl rfl xi84 rfl ?_
                          refine q_if_eq (n := 120) (t := 124) dX7_holds_117 rfl (by decide) (fun h117 => ?_) (fun h117 => ?_)
                          · have h117 := q_b0.mp h117
                            refine q_iconst (n := 125) dX7_holds_124 rfl (k := ?_)
                            refine q_iret dX7_holds_125 rfl (fun _ => rfl) ?_
                            refine ⟨congrArg some (congrArg Sum.inl (Eq.symm ?_)), _, rfl⟩
                            unfold fHolds
                            rw [if_neg hok, if_neg (by omega)]
                            unfold hoE
                            first
                              | (rw [if_pos h97, if_pos h44]; first | exact if_pos h117 | exact if_neg h117)
                              | (rw [if_pos h97, if_neg h44]; first | exact if_pos h117 | exact if_neg h117)
                              | (rw [if_neg h97, if_pos h44]; first | exact if_pos h117 | exact if_neg h117)
                              | (rw [if_neg h97, if_neg h44]; first | exact if_pos h117 | exact if_neg h117)
                          · have h117 := q_b1.mp h117
                            refine q_iconst (n := 121) dX7_holds_120 rfl (k := ?_)
                            refine q_go (t := 125) dX7_holds_121 (by decide) ?_
                            refine q_iret dX7_holds_125 rfl (fun _ => rfl) ?_
                            refine ⟨congrArg some (congrArg Sum.inl (Eq.symm ?_)), _, rfl⟩
                            unfold fHolds
                            rw [if_neg hok, if_neg (by omega)]
                            unfold hoE
                            first
                              | (rw [if_pos h97, if_pos h44]; first | exact if_pos h117 | exact if_neg h117)
                              | (rw [if_pos h97, if_neg h44]; first | exact if_pos h117 | exact if_neg h117)
                              | (rw [if_neg h97, if_pos h44]; first | exact if_pos h117 | exact if_neg h117)
                              | (rw [if_neg h97, if_neg h44]; first | exact if_pos h117 | exact if_neg h117)
                · skip
                  refine q_bipush (n := 79) dX7_holds_77 rfl (k := ?_)
                  refine q_iret dX7_holds_79 rfl (fun _ => rfl) ?_
                  refine ⟨congrArg some (congrArg Sum.inl (Eq.symm ?_)), _, rfl⟩
                  unfold fHolds
                  rw [if_neg hok, if_pos (by omega)]
            · have h60 := q_b0.mp h63
              refine q_iconst (n := 67) dX7_holds_66 rfl (k := ?_)
              refine q_iret dX7_holds_67 rfl (fun _ => rfl) ?_
              refine ⟨congrArg some (congrArg Sum.inl (Eq.symm ?_)), _, rfl⟩
              unfold fHolds
              have hb : ¬ (0 ≤ v ∧ v < σ 1 2) ∨ ¬ (0 ≤ L ∧ L < 3) ∨ ¬ (w = -1 ∨ (0 ≤ w ∧ w < 12) ∧ num w 0 = 0) ∨ (σ 6 v = -1 ∧ ¬ ((0 ≤ u ∧ u < 12) ∧ num u 0 = 0)) := Or.inr (Or.inr (Or.inr ⟨h44, h60⟩))
              exact if_pos hb
      · skip
        refine q_iload (n := 26) dX7_holds_24 rfl rfl ?_
        refine q_c1D (n := 29) dX7_holds_26 rfl (zX7_isNeutral _ _) vX7_isNeutral lX7_246 rfl rfl ?_
        refine q_if_ne (n := 32) (t := 34) dX7_holds_29 rfl (by decide) (fun h29 => ?_) (fun h29 => ?_)
        · have h29 := q_b1.mp h29
          refine q_aload_n (n := 35) dX7_holds_34 rfl rfl ?_
          refine q_getR (n := 38) dX7_holds_35 rfl fX7_12 xi0 rfl ?_
          refine q_getR (n := 41) dX7_holds_38 rfl fX7_144 xi1 rfl ?_
          refine q_iload_n (n := 42) dX7_holds_41 rfl rfl ?_
          refine q_ialoadF (σ 6) (n := 43) dX7_holds_42 rfl xi6 ⟨by omega, by omega⟩ rfl ?_
          refine q_iconst (n := 44) dX7_holds_43 rfl (k := ?_)
          refine q_icmp_ne (n := 47) (t := 51) dX7_holds_44 rfl (by decide) (fun h44 => ?_) (fun h44 => ?_)
          · have h44 : ¬ σ 6 v = -1 := h44
            refine q_iconst (n := 52) dX7_holds_51 rfl (k := ?_)
            refine q_istore (n := 54) dX7_holds_52 rfl (Nat.le_of_ble_eq_true rfl) (q_s1_s (q_s1_s (q_s1_s (q_s1_s (q_s1_1 rfl))))) ?_
            refine q_iload (n := 56) dX7_holds_54 rfl rfl ?_
            refine q_if_eq (n := 59) (t := 68) dX7_holds_56 rfl (by decide) (fun h56 => ?_) (fun h56 => ?_)
            · skip
              have hok : ¬ (¬ (0 ≤ v ∧ v < σ 1 2) ∨ ¬ (0 ≤ L ∧ L < 3) ∨ ¬ (w = -1 ∨ (0 ≤ w ∧ w < 12) ∧ num w 0 = 0) ∨ (σ 6 v = -1 ∧ ¬ ((0 ≤ u ∧ u < 12) ∧ num u 0 = 0))) := by
                intro z
                rcases z with z | z | z | z
                · exact z h8
                · exact z h15
                · first | exact z (Or.inl h21) | exact z (Or.inr h29)
                · first | exact h44 z.1 | exact z.2 h60
              refine q_aload_n (n := 69) dX7_holds_68 rfl rfl ?_
              refine q_iload_n (n := 70) dX7_holds_69 rfl rfl ?_
              refine q_iload_n (n := 71) dX7_holds_70 rfl rfl ?_
              refine q_v2 (n := 74) dX7_holds_71 rfl (zX7_askTracks v L _ _ hI0 hv) vX7_askTracks lX7_249 rfl rfl xi0 rfl (fun v71 σ71 h71 => ?_)
              obtain ⟨rfl, s1, rfl, hr⟩ := h71
              · skip
                refine q_if_le (n := 77) (t := 80) dX7_holds_74 rfl (by decide) (fun h74 => ?_) (fun h74 => ?_)
                · skip
                  refine q_iload (n := 82) dX7_holds_80 rfl rfl ?_
                  refine q_if_eq (n := 85) (t := 94) dX7_holds_82 rfl (by decide) (fun h82 => ?_) (fun h82 => ?_)
                  · skip
                    refine q_iload (n := 96) dX7_holds_94 rfl rfl ?_
                    refine q_iconst (n := 97) dX7_holds_96 rfl (k := ?_)
                    refine q_icmp_eq (n := 100) (t := 110) dX7_holds_97 rfl (by decide) (fun h97 => ?_) (fun h97 => ?_)
                    · skip
                      refine q_aload_n (n := 111) dX7_holds_110 rfl rfl ?_
                      refine q_getR (n := 114) dX7_holds_111 rfl fX7_55 xi0 rfl ?_
                      refine q_v0D (n := 117) dX7_holds_114 rfl (zC_isLawful _ _ _ L (by first | exact hr3 | exact hr2 | exact hr) (by first | exact (fun j x y => bd_le (hE3 j x y) (by decide)) | exact (fun j x y => bd_le (hE2 j x y) (by decide)) | exact (fun j x y => bd_le (hE1 j x y) (by decide)))) vX2_isLawful lX7_256 rfl rfl xi84 rfl ?_
                      refine q_if_eq (n := 120) (t := 124) dX7_holds_117 rfl (by decide) (fun h117 => ?_) (fun h117 => ?_)
                      · have h117 := q_b0.mp h117
                        refine q_iconst (n := 125) dX7_holds_124 rfl (k := ?_)
                        refine q_iret dX7_holds_125 rfl (fun _ => rfl) ?_
                        refine ⟨congrArg some (congrArg Sum.inl (Eq.symm ?_)), _, rfl⟩
                        unfold fHolds
                        rw [if_neg hok, if_neg (by omega)]
                        unfold hoE
                        first
                          | (rw [if_pos h97, if_pos h44]; first | exact if_pos h117 | exact if_neg h117)
                          | (rw [if_pos h97, if_neg h44]; first | exact if_pos h117 | exact if_neg h117)
                          | (rw [if_neg h97, if_pos h44]; first | exact if_pos h117 | exact if_neg h117)
                          | (rw [if_neg h97, if_neg h44]; first | exact if_pos h117 | exact if_neg h117)
                      · have h117 := q_b1.mp h117
                        refine q_iconst (n := 121) dX7_holds_120 rfl (k := ?_)
                        refine q_go (t := 125) dX7_holds_121 (by decide) ?_
                        refine q_iret dX7_holds_125 rfl (fun _ => rfl) ?_
                        refine ⟨congrArg some (congrArg Sum.inl (Eq.symm ?_)), _, rfl⟩
                        unfold fHolds
                        rw [if_neg hok, if_neg (by omega)]
                        unfold hoE
                        first
                          | (rw [if_pos h97, if_pos h44]; first | exact if_pos h117 | exact if_neg h117)
                          | (rw [if_pos h97, if_neg h44]; first | exact if_pos h117 | exact if_neg h117)
                          | (rw [if_neg h97, if_pos h44]; first | exact if_pos h117 | exact if_neg h117)
                          | (rw [if_neg h97, if_neg h44]; first | exact if_pos h117 | exact if_neg h117)
                    · have hk9 : 0 ≤ w ∧ w < 12 := by first | exact h29.1 | (exfalso; omega)
                      refine q_aload_n (n := 101) dX7_holds_100 rfl rfl ?_
                      refine q_getR (n := 104) dX7_holds_101 rfl fX7_55 xi0 rfl ?_
                      refine q_iload (n := 106) dX7_holds_104 rfl rfl ?_
                      refine q_iconst (n := 107) dX7_holds_106 rfl (k := ?_)
                      refine q_v2W (n := 110) dX7_holds_107 rfl (zC_weigh _ _ _ L _ _ (by first | exact hr2 | exact hr) hk9 m1 (by first | exact (fun j x y => bd_le (hE2 j x y) (by decide)) | exact (fun j x y => bd_le (hE1 j x y) (by decide)))) vX2_weigh lX7_252 rfl rfl xi84 rfl (fun σ107 h107 => ?_)
                      obtain ⟨s3, rfl, hr3, _⟩ := h107
                      first
                        | (have hE3 := bE hE2 m1 hk9)
                        | (have hE3 := bE hE1 m1 hk9)
                      · skip
                        refine q_aload_n (n := 111) dX7_holds_110 rfl rfl ?_
                        refine q_getR (n := 114) dX7_holds_111 rfl fX7_55 xi0 rfl ?_
                        refine q_v0D (n := 117) dX7_holds_114 rfl (zC_isLawful _ _ _ L (by first | exact hr3 | exact hr2 | exact hr) (by first | exact (fun j x y => bd_le (hE3 j x y) (by decide)) | exact (fun j x y => bd_le (hE2 j x y) (by decide)) | exact (fun j x y => bd_le (hE1 j x y) (by decide)))) vX2_isLawful lX7_256 rfl rfl xi84 rfl ?_
                        refine q_if_eq (n := 120) (t := 124) dX7_holds_117 rfl (by decide) (fun h117 => ?_) (fun h117 => ?_)
                        · have h117 := q_b0.mp h117
                          refine q_iconst (n := 125) dX7_holds_124 rfl (k := ?_)
                          refine q_iret dX7_holds_125 rfl (fun _ => rfl) ?_
                          refine ⟨congrArg some (congrArg Sum.inl (Eq.symm ?_)), _, rfl⟩
                          unfold fHolds
                          rw [if_neg hok, if_neg (by omega)]
                          unfold hoE
                          first
                            | (rw [if_pos h97, if_pos h44]; first | exact if_pos h117 | exact if_neg h117)
                            | (rw [if_pos h97, if_neg h44]; first | exact if_pos h117 | exact if_neg h117)
                            | (rw [if_neg h97, if_pos h44]; first | exact if_pos h117 | exact if_neg h117)
                            | (rw [if_neg h97, if_neg h44]; first | exact if_pos h117 | exact if_neg h117)
                        · have h117 := q_b1.mp h117
                          refine q_iconst (n := 121) dX7_holds_120 rfl (k := ?_)
                          refine q_go (t := 125) dX7_holds_121 (by decide) ?_
                          refine q_iret dX7_holds_125 rfl (fun _ => rfl) ?_
                          refine ⟨congrArg some (congrArg Sum.inl (Eq.symm ?_)), _, rfl⟩
                          unfold fHolds
                          rw [if_neg hok, if_neg (by omega)]
                          unfold hoE
                          first
                            | (rw [if_pos h97, if_pos h44]; first | exact if_pos h117 | exact if_neg h117)
                            | (rw [if_pos h97, if_neg h44]; first | exact if_pos h117 | exact if_neg h117)
                            | (rw [if_neg h97, if_pos h44]; first | exact if_pos h117 | exact if_neg h117)
                            | (rw [if_neg h97, if_neg h44]; first | exact if_pos h117 | exact if_neg h117)
                  · exact absurd h82 (by decide)
                · skip
                  refine q_bipush (n := 79) dX7_holds_77 rfl (k := ?_)
                  refine q_iret dX7_holds_79 rfl (fun _ => rfl) ?_
                  refine ⟨congrArg some (congrArg Sum.inl (Eq.symm ?_)), _, rfl⟩
                  unfold fHolds
                  rw [if_neg hok, if_pos (by omega)]
            · exact absurd h56 (by decide)
          · have h44 : σ 6 v = -1 := h44
            refine q_iconst (n := 48) dX7_holds_47 rfl (k := ?_)
            refine q_go (t := 52) dX7_holds_48 (by decide) ?_
            refine q_istore (n := 54) dX7_holds_52 rfl (Nat.le_of_ble_eq_true rfl) (q_s1_s (q_s1_s (q_s1_s (q_s1_s (q_s1_1 rfl))))) ?_
            refine q_iload (n := 56) dX7_holds_54 rfl rfl ?_
            refine q_if_eq (n := 59) (t := 68) dX7_holds_56 rfl (by decide) (fun h56 => ?_) (fun h56 => ?_)
            · exact absurd h56 (by decide)
            · skip
              refine q_iload_n (n := 60) dX7_holds_59 rfl rfl ?_
              refine q_c1D (n := 63) dX7_holds_60 rfl (zX7_isNeutral _ _) vX7_isNeutral lX7_246 rfl rfl ?_
              refine q_if_ne (n := 66) (t := 68) dX7_holds_63 rfl (by decide) (fun h63 => ?_) (fun h63 => ?_)
              · have h60 := q_b1.mp h63
                have hok : ¬ (¬ (0 ≤ v ∧ v < σ 1 2) ∨ ¬ (0 ≤ L ∧ L < 3) ∨ ¬ (w = -1 ∨ (0 ≤ w ∧ w < 12) ∧ num w 0 = 0) ∨ (σ 6 v = -1 ∧ ¬ ((0 ≤ u ∧ u < 12) ∧ num u 0 = 0))) := by
                  intro z
                  rcases z with z | z | z | z
                  · exact z h8
                  · exact z h15
                  · exact z (by first | exact Or.inl h21 | exact Or.inr h29)
                  · first | exact h44 z.1 | exact z.2 h60
                have hok : ¬ (¬ (0 ≤ v ∧ v < σ 1 2) ∨ ¬ (0 ≤ L ∧ L < 3) ∨ ¬ (w = -1 ∨ (0 ≤ w ∧ w < 12) ∧ num w 0 = 0) ∨ (σ 6 v = -1 ∧ ¬ ((0 ≤ u ∧ u < 12) ∧ num u 0 = 0))) := by
                  intro z
                  rcases z with z | z | z | z
                  · exact z h8
                  · exact z h15
                  · first | exact z (Or.inl h21) | exact z (Or.inr h29)
                  · first | exact h44 z.1 | exact z.2 h60
                refine q_aload_n (n := 69) dX7_holds_68 rfl rfl ?_
                refine q_iload_n (n := 70) dX7_holds_69 rfl rfl ?_
                refine q_iload_n (n := 71) dX7_holds_70 rfl rfl ?_
                refine q_v2 (n := 74) dX7_holds_71 rfl (zX7_askTracks v L _ _ hI0 hv) vX7_askTracks lX7_249 rfl rfl xi0 rfl (fun v71 σ71 h71 => ?_)
                obtain ⟨rfl, s1, rfl, hr⟩ := h71
                · skip
                  refine q_if_le (n := 77) (t := 80) dX7_holds_74 rfl (by decide) (fun h74 => ?_) (fun h74 => ?_)
                  · skip
                    refine q_iload (n := 82) dX7_holds_80 rfl rfl ?_
                    refine q_if_eq (n := 85) (t := 94) dX7_holds_82 rfl (by decide) (fun h82 => ?_) (fun h82 => ?_)
                    · exact absurd h82 (by decide)
                    · skip
                      refine q_aload_n (n := 86) dX7_holds_85 rfl rfl ?_
                      refine q_getR (n := 89) dX7_holds_86 rfl fX7_55 xi0 rfl ?_
                      refine q_iload_n (n := 90) dX7_holds_89 rfl rfl ?_
                      refine q_iconst (n := 91) dX7_holds_90 rfl (k := ?_)
                      refine q_v2W (n := 94) dX7_holds_91 rfl (zC_weigh _ _ (akA (σ 2) (σ 3) (σ 1 1) (σ 6 v) (σ 7 v)) L _ _ hr h60.1 p1 (fun j x y => bd_le (hE1 j x y) (by decide))) vX2_weigh lX7_252 rfl rfl xi84 rfl (fun σ91 h91 => ?_)
                      obtain ⟨s2, rfl, hr2, _⟩ := h91
                      have hE2 := bE hE1 p1 h60.1
                      · skip
                        refine q_iload (n := 96) dX7_holds_94 rfl rfl ?_
                        refine q_iconst (n := 97) dX7_holds_96 rfl (k := ?_)
                        refine q_icmp_eq (n := 100) (t := 110) dX7_holds_97 rfl (by decide) (fun h97 => ?_) (fun h97 => ?_)
                        · skip
                          refine q_aload_n (n := 111) dX7_holds_110 rfl rfl ?_
                          refine q_getR (n := 114) dX7_holds_111 rfl fX7_55 xi0 rfl ?_
                          refine q_v0D (n := 117) dX7_holds_114 rfl (zC_isLawful _ _ _ L (by first | exact hr3 | exact hr2 | exact hr) (by first | exact (fun j x y => bd_le (hE3 j x y) (by decide)) | exact (fun j x y => bd_le (hE2 j x y) (by decide)) | exact (fun j x y => bd_le (hE1 j x y) (by decide)))) vX2_isLawful lX7_256 rfl rfl xi84 rfl ?_
                          refine q_if_eq (n := 120) (t := 124) dX7_holds_117 rfl (by decide) (fun h117 => ?_) (fun h117 => ?_)
                          · have h117 := q_b0.mp h117
                            refine q_iconst (n := 125) dX7_holds_124 rfl (k := ?_)
                            refine q_iret dX7_holds_125 rfl (fun _ => rfl) ?_
                            refine ⟨congrArg some (congrArg Sum.inl (Eq.symm ?_)), _, rfl⟩
                            unfold fHolds
                            rw [if_neg hok, if_neg (by omega)]
                            unfold hoE
                            first
                              | (rw [if_pos h97, if_pos h44]; first | exact if_pos h117 | exact if_neg h117)
                              | (rw [if_pos h97, if_neg h44]; first | exact if_pos h117 | exact if_neg h117)
                              | (rw [if_neg h97, if_pos h44]; first | exact if_pos h117 | exact if_neg h117)
                              | (rw [if_neg h97, if_neg h44]; first | exact if_pos h117 | exact if_neg h117)
                          · have h117 := q_b1.mp h117
                            refine q_iconst (n := 121) dX7_holds_120 rfl (k := ?_)
                            refine q_go (t := 125) dX7_holds_121 (by decide) ?_
                            refine q_iret dX7_holds_125 rfl (fun _ => rfl) ?_
                            refine ⟨congrArg some (congrArg Sum.inl (Eq.symm ?_)), _, rfl⟩
                            unfold fHolds
                            rw [if_neg hok, if_neg (by omega)]
                            unfold hoE
                            first
                              | (rw [if_pos h97, if_pos h44]; first | exact if_pos h117 | exact if_neg h117)
                              | (rw [if_pos h97, if_neg h44]; first | exact if_pos h117 | exact if_neg h117)
                              | (rw [if_neg h97, if_pos h44]; first | exact if_pos h117 | exact if_neg h117)
                              | (rw [if_neg h97, if_neg h44]; first | exact if_pos h117 | exact if_neg h117)
                        · have hk9 : 0 ≤ w ∧ w < 12 := by first | exact h29.1 | (exfalso; omega)
                          refine q_aload_n (n := 101) dX7_holds_100 rfl rfl ?_
                          refine q_getR (n := 104) dX7_holds_101 rfl fX7_55 xi0 rfl ?_
                          refine q_iload (n := 106) dX7_holds_104 rfl rfl ?_
                          refine q_iconst (n := 107) dX7_holds_106 rfl (k := ?_)
                          refine q_v2W (n := 110) dX7_holds_107 rfl (zC_weigh _ _ _ L _ _ (by first | exact hr2 | exact hr) hk9 m1 (by first | exact (fun j x y => bd_le (hE2 j x y) (by decide)) | exact (fun j x y => bd_le (hE1 j x y) (by decide)))) vX2_weigh lX7_252 rfl rfl xi84 rfl (fun σ107 h107 => ?_)
                          obtain ⟨s3, rfl, hr3, _⟩ := h107
                          first
                            | (have hE3 := bE hE2 m1 hk9)
                            | (have hE3 := bE hE1 m1 hk9)
                          · skip
                            refine q_aload_n (n := 111) dX7_holds_110 rfl rfl ?_
                            refine q_getR (n := 114) dX7_holds_111 rfl fX7_55 xi0 rfl ?_
                            refine q_v0D (n := 117) dX7_holds_114 rfl (zC_isLawful _ _ _ L (by first | exact hr3 | exact hr2 | exact hr) (by first | exact (fun j x y => bd_le (hE3 j x y) (by decide)) | exact (fun j x y => bd_le (hE2 j x y) (by decide)) | exact (fun j x y => bd_le (hE1 j x y) (by decide)))) vX2_isLawful lX7_256 rfl rfl xi84 rfl ?_
                            refine q_if_eq (n := 120) (t := 124) dX7_holds_117 rfl (by decide) (fun h117 => ?_) (fun h117 => ?_)
                            · have h117 := q_b0.mp h117
                              refine q_iconst (n := 125) dX7_holds_124 rfl (k := ?_)
                              refine q_iret dX7_holds_125 rfl (fun _ => rfl) ?_
                              refine ⟨congrArg some (congrArg Sum.inl (Eq.symm ?_)), _, rfl⟩
                              unfold fHolds
                              rw [if_neg hok, if_neg (by omega)]
                              unfold hoE
                              first
                                | (rw [if_pos h97, if_pos h44]; first | exact if_pos h117 | exact if_neg h117)
                                | (rw [if_pos h97, if_neg h44]; first | exact if_pos h117 | exact if_neg h117)
                                | (rw [if_neg h97, if_pos h44]; first | exact if_pos h117 | exact if_neg h117)
                                | (rw [if_neg h97, if_neg h44]; first | exact if_pos h117 | exact if_neg h117)
                            · have h117 := q_b1.mp h117
                              refine q_iconst (n := 121) dX7_holds_120 rfl (k := ?_)
                              refine q_go (t := 125) dX7_holds_121 (by decide) ?_
                              refine q_iret dX7_holds_125 rfl (fun _ => rfl) ?_
                              refine ⟨congrArg some (congrArg Sum.inl (Eq.symm ?_)), _, rfl⟩
                              unfold fHolds
                              rw [if_neg hok, if_neg (by omega)]
                              unfold hoE
                              first
                                | (rw [if_pos h97, if_pos h44]; first | exact if_pos h117 | exact if_neg h117)
                                | (rw [if_pos h97, if_neg h44]; first | exact if_pos h117 | exact if_neg h117)
                                | (rw [if_neg h97, if_pos h44]; first | exact if_pos h117 | exact if_neg h117)
                                | (rw [if_neg h97, if_neg h44]; first | exact if_pos h117 | exact if_neg h117)
                  · skip
                    refine q_bipush (n := 79) dX7_holds_77 rfl (k := ?_)
                    refine q_iret dX7_holds_79 rfl (fun _ => rfl) ?_
                    refine ⟨congrArg some (congrArg Sum.inl (Eq.symm ?_)), _, rfl⟩
                    unfold fHolds
                    rw [if_neg hok, if_pos (by omega)]
              · have h60 := q_b0.mp h63
                refine q_iconst (n := 67) dX7_holds_66 rfl (k := ?_)
                refine q_iret dX7_holds_67 rfl (fun _ => rfl) ?_
                refine ⟨congrArg some (congrArg Sum.inl (Eq.symm ?_)), _, rfl⟩
                unfold fHolds
                have hb : ¬ (0 ≤ v ∧ v < σ 1 2) ∨ ¬ (0 ≤ L ∧ L < 3) ∨ ¬ (w = -1 ∨ (0 ≤ w ∧ w < 12) ∧ num w 0 = 0) ∨ (σ 6 v = -1 ∧ ¬ ((0 ≤ u ∧ u < 12) ∧ num u 0 = 0)) := Or.inr (Or.inr (Or.inr ⟨h44, h60⟩))
                exact if_pos hb
        · have h29 := q_b0.mp h29
          refine q_iconst (n := 33) dX7_holds_32 rfl (k := ?_)
          refine q_iret dX7_holds_33 rfl (fun _ => rfl) ?_
          refine ⟨congrArg some (congrArg Sum.inl (Eq.symm ?_)), _, rfl⟩
          unfold fHolds
          have hb : ¬ (0 ≤ v ∧ v < σ 1 2) ∨ ¬ (0 ≤ L ∧ L < 3) ∨ ¬ (w = -1 ∨ (0 ≤ w ∧ w < 12) ∧ num w 0 = 0) ∨ (σ 6 v = -1 ∧ ¬ ((0 ≤ u ∧ u < 12) ∧ num u 0 = 0)) := by
            first
              | exact Or.inl h8
              | exact Or.inr (Or.inl h15)
              | exact Or.inr (Or.inr (Or.inl (fun z => z.elim h21 h29)))
          exact if_pos hb
set_option maxRecDepth 100000 in
theorem zX7_names (v L w k : Int) (σ s : q_S) (hI : IX σ) : q_Ct mX7_names shX [.inr (.inr 0), .inl v, .inl L, .inl w, .inl k] (ov σ s) (fun r σ' => r = some (.inl (fNames (σ 1 1) (σ 1 2) (σ 2) (σ 3) (σ 6) (σ 7) v L w k)) ∧ ∃ s', σ' = ov σ s') := by
  refine q_ct 1 (by decide) rfl rfl ?_
  show q_WP mX7_names shX 0 [some (.inr (.inr 0)), some (.inl v), some (.inl L), some (.inl w), some (.inl k), none] [] (ov σ s) _
  have hI0 := hI
  have hvv := hI.1.2.2.1
  refine q_aload_n (n := 1) dX7_names_0 rfl rfl ?_
  refine q_iload_n (n := 2) dX7_names_1 rfl rfl ?_
  refine q_iload_n (n := 3) dX7_names_2 rfl rfl ?_
  refine q_iload_n (n := 4) dX7_names_3 rfl rfl ?_
  refine q_v3D (n := 7) dX7_names_4 rfl (zX7_canBeNamed _ _ _ _ _) vX7_canBeNamed lX7_259 rfl rfl xi0 rfl ?_
  refine q_if_eq (n := 10) (t := 16) dX7_names_7 rfl (by decide) (fun h7 => ?_) (fun h7 => ?_)
  · have h7 := q_b0.mp h7
    refine q_iconst (n := 17) dX7_names_16 rfl (k := ?_)
    refine q_iret dX7_names_17 rfl (fun _ => rfl) ?_
    refine ⟨congrArg some (congrArg Sum.inl (Eq.symm ?_)), _, rfl⟩
    unfold fNames
    first
      | exact if_pos (by by_cases z1 : (0 ≤ v ∧ v < σ 1 2); by_cases z2 : (0 ≤ L ∧ L < 3); by_cases z3 : (w = 0 ∨ w = 1); exact absurd ⟨z1, z2, z3⟩ h7; exact Or.inr (Or.inr (Or.inl z3)); exact Or.inr (Or.inl z2); exact Or.inl z1)
      | exact if_pos (by omega)
      | (rw [if_neg (by omega), if_pos (by omega)]; done)
      | (rw [if_neg (by omega), if_neg (by omega), if_pos h42]; done)
      | (rw [if_neg (by omega), if_neg (by omega), if_neg h42, if_pos (Or.inl h50)]; done)
      | (rw [if_neg (by omega), if_neg (by omega), if_neg h42, if_pos (Or.inr (by omega))]; done)
      | (rw [if_neg (by omega), if_neg (by omega), if_neg h42, if_neg (fun z => z.elim h50 (fun z => by omega))]; done)
  · obtain ⟨hv, h7b, h7c⟩ := q_b1.mp h7
    have hA := hI0.aks hv
    have hk2 := (hI0.aks2 hv w).1
    refine q_iload (n := 12) dX7_names_10 rfl rfl ?_
    refine q_iconst (n := 13) dX7_names_12 rfl (k := ?_)
    refine q_icmp_ge (n := 16) (t := 18) dX7_names_13 rfl (by decide) (fun h13 => ?_) (fun h13 => ?_)
    · skip
      refine q_aload_n (n := 19) dX7_names_18 rfl rfl ?_
      refine q_iload_n (n := 20) dX7_names_19 rfl rfl ?_
      refine q_iload_n (n := 21) dX7_names_20 rfl rfl ?_
      refine q_v2 (n := 24) dX7_names_21 rfl (zX7_askTracks v L _ _ hI0 hv) vX7_askTracks lX7_249 rfl rfl xi0 rfl (fun v21 σ21 h21 => ?_)
      obtain ⟨rfl, s1, rfl, hr⟩ := h21
      · skip
        refine q_iconst (n := 25) dX7_names_24 rfl (k := ?_)
        refine q_icmp_le (n := 28) (t := 31) dX7_names_25 rfl (by decide) (fun h25 => ?_) (fun h25 => ?_)
        · skip
          refine q_aload_n (n := 32) dX7_names_31 rfl rfl ?_
          refine q_iload_n (n := 33) dX7_names_32 rfl rfl ?_
          refine q_iload_n (n := 34) dX7_names_33 rfl rfl ?_
          refine q_v2 (n := 37) dX7_names_34 rfl (zX7_waysWith v w L _ _ hI0 hv hr) vX7_waysWith lX7_262 rfl rfl xi0 rfl (fun v34 σ34 h34 => ?_)
          obtain ⟨rfl, s2, rfl, hw1, hw2, hw3⟩ := h34
          · skip
            refine q_istore (n := 39) dX7_names_37 rfl (Nat.le_of_ble_eq_true rfl) (q_s1_s (q_s1_s (q_s1_s (q_s1_s (q_s1_1 rfl))))) ?_
            refine q_iload (n := 41) dX7_names_39 rfl rfl ?_
            refine q_iconst (n := 42) dX7_names_41 rfl (k := ?_)
            refine q_icmp_ne (n := 45) (t := 48) dX7_names_42 rfl (by decide) (fun h42 => ?_) (fun h42 => ?_)
            · skip
              refine q_iload (n := 50) dX7_names_48 rfl rfl ?_
              refine q_if_eq (n := 53) (t := 65) dX7_names_50 rfl (by decide) (fun h50 => ?_) (fun h50 => ?_)
              · skip
                refine q_bipush (n := 67) dX7_names_65 rfl (k := ?_)
                refine q_go (t := 80) dX7_names_67 (by decide) ?_
                refine q_iret dX7_names_80 rfl (fun _ => rfl) ?_
                refine ⟨congrArg some (congrArg Sum.inl (Eq.symm ?_)), _, rfl⟩
                unfold fNames
                first
                  | exact if_pos (by by_cases z1 : (0 ≤ v ∧ v < σ 1 2); by_cases z2 : (0 ≤ L ∧ L < 3); by_cases z3 : (w = 0 ∨ w = 1); exact absurd ⟨z1, z2, z3⟩ h7; exact Or.inr (Or.inr (Or.inl z3)); exact Or.inr (Or.inl z2); exact Or.inl z1)
                  | exact if_pos (by omega)
                  | (rw [if_neg (by omega), if_pos (by omega)]; done)
                  | (rw [if_neg (by omega), if_neg (by omega), if_pos h42]; done)
                  | (rw [if_neg (by omega), if_neg (by omega), if_neg h42, if_pos (Or.inl h50)]; done)
                  | (rw [if_neg (by omega), if_neg (by omega), if_neg h42, if_pos (Or.inr (by omega))]; done)
                  | (rw [if_neg (by omega), if_neg (by omega), if_neg h42, if_neg (fun z => z.elim h50 (fun z => by omega))]; done)
              · skip
                refine q_iload (n := 55) dX7_names_53 rfl rfl ?_
                refine q_aload_n (n := 56) dX7_names_55 rfl rfl ?_
                refine q_getR (n := 59) dX7_names_56 rfl fX7_55 xi0 rfl ?_
                refine q_getIE ((ak2 (akA (σ 2) (σ 3) (σ 1 1) (σ 6 v) (σ 7 v)) (σ 6 v) w).2.2.2.2) (kI := 7) (n := 62) (by decide) dX7_names_59 rfl fX7_265 xi84 rfl rfl hw1 ?_
                refine q_icmp_lt (n := 65) (t := 70) dX7_names_62 rfl (by decide) (fun h62 => ?_) (fun h62 => ?_)
                · skip
                  refine q_aload_n (n := 71) dX7_names_70 rfl rfl ?_
                  refine q_getR (n := 74) dX7_names_71 rfl fX7_55 xi0 rfl ?_
                  refine q_getR (n := 77) dX7_names_74 rfl fX7_268 xi84 rfl ?_
                  refine q_iload (n := 79) dX7_names_77 rfl rfl ?_
                  refine q_ialoadE ((wF L (ak2 (akA (σ 2) (σ 3) (σ 1 1) (σ 6 v) (σ 7 v)) (σ 6 v) w)).2.1 k) (n := 80) dX7_names_79 rfl xi89 ⟨by omega, by omega⟩ (hw3 h50 k (by omega) (by omega)) ?_
                  refine q_iret dX7_names_80 rfl (fun _ => rfl) ?_
                  refine ⟨congrArg some (congrArg Sum.inl (Eq.symm ?_)), _, rfl⟩
                  unfold fNames
                  first
                    | exact if_pos (by by_cases z1 : (0 ≤ v ∧ v < σ 1 2); by_cases z2 : (0 ≤ L ∧ L < 3); by_cases z3 : (w = 0 ∨ w = 1); exact absurd ⟨z1, z2, z3⟩ h7; exact Or.inr (Or.inr (Or.inl z3)); exact Or.inr (Or.inl z2); exact Or.inl z1)
                    | exact if_pos (by omega)
                    | (rw [if_neg (by omega), if_pos (by omega)]; done)
                    | (rw [if_neg (by omega), if_neg (by omega), if_pos h42]; done)
                    | (rw [if_neg (by omega), if_neg (by omega), if_neg h42, if_pos (Or.inl h50)]; done)
                    | (rw [if_neg (by omega), if_neg (by omega), if_neg h42, if_pos (Or.inr (by omega))]; done)
                    | (rw [if_neg (by omega), if_neg (by omega), if_neg h42, if_neg (fun z => z.elim h50 (fun z => by omega))]; done)
                · skip
                  refine q_bipush (n := 67) dX7_names_65 rfl (k := ?_)
                  refine q_go (t := 80) dX7_names_67 (by decide) ?_
                  refine q_iret dX7_names_80 rfl (fun _ => rfl) ?_
                  refine ⟨congrArg some (congrArg Sum.inl (Eq.symm ?_)), _, rfl⟩
                  unfold fNames
                  first
                    | exact if_pos (by by_cases z1 : (0 ≤ v ∧ v < σ 1 2); by_cases z2 : (0 ≤ L ∧ L < 3); by_cases z3 : (w = 0 ∨ w = 1); exact absurd ⟨z1, z2, z3⟩ h7; exact Or.inr (Or.inr (Or.inl z3)); exact Or.inr (Or.inl z2); exact Or.inl z1)
                    | exact if_pos (by omega)
                    | (rw [if_neg (by omega), if_pos (by omega)]; done)
                    | (rw [if_neg (by omega), if_neg (by omega), if_pos h42]; done)
                    | (rw [if_neg (by omega), if_neg (by omega), if_neg h42, if_pos (Or.inl h50)]; done)
                    | (rw [if_neg (by omega), if_neg (by omega), if_neg h42, if_pos (Or.inr (by omega))]; done)
                    | (rw [if_neg (by omega), if_neg (by omega), if_neg h42, if_neg (fun z => z.elim h50 (fun z => by omega))]; done)
            · skip
              refine q_iload (n := 47) dX7_names_45 rfl rfl ?_
              refine q_iret dX7_names_47 rfl (fun _ => rfl) ?_
              refine ⟨congrArg some (congrArg Sum.inl (Eq.symm ?_)), _, rfl⟩
              unfold fNames
              first
                | exact if_pos (by by_cases z1 : (0 ≤ v ∧ v < σ 1 2); by_cases z2 : (0 ≤ L ∧ L < 3); by_cases z3 : (w = 0 ∨ w = 1); exact absurd ⟨z1, z2, z3⟩ h7; exact Or.inr (Or.inr (Or.inl z3)); exact Or.inr (Or.inl z2); exact Or.inl z1)
                | exact if_pos (by omega)
                | (rw [if_neg (by omega), if_pos (by omega)]; done)
                | (rw [if_neg (by omega), if_neg (by omega), if_pos h42]; done)
                | (rw [if_neg (by omega), if_neg (by omega), if_neg h42, if_pos (Or.inl h50)]; done)
                | (rw [if_neg (by omega), if_neg (by omega), if_neg h42, if_pos (Or.inr (by omega))]; done)
                | (rw [if_neg (by omega), if_neg (by omega), if_neg h42, if_neg (fun z => z.elim h50 (fun z => by omega))]; done)
        · skip
          refine q_bipush (n := 30) dX7_names_28 rfl (k := ?_)
          refine q_iret dX7_names_30 rfl (fun _ => rfl) ?_
          refine ⟨congrArg some (congrArg Sum.inl (Eq.symm ?_)), _, rfl⟩
          unfold fNames
          first
            | exact if_pos (by by_cases z1 : (0 ≤ v ∧ v < σ 1 2); by_cases z2 : (0 ≤ L ∧ L < 3); by_cases z3 : (w = 0 ∨ w = 1); exact absurd ⟨z1, z2, z3⟩ h7; exact Or.inr (Or.inr (Or.inl z3)); exact Or.inr (Or.inl z2); exact Or.inl z1)
            | exact if_pos (by omega)
            | (rw [if_neg (by omega), if_pos (by omega)]; done)
            | (rw [if_neg (by omega), if_neg (by omega), if_pos h42]; done)
            | (rw [if_neg (by omega), if_neg (by omega), if_neg h42, if_pos (Or.inl h50)]; done)
            | (rw [if_neg (by omega), if_neg (by omega), if_neg h42, if_pos (Or.inr (by omega))]; done)
            | (rw [if_neg (by omega), if_neg (by omega), if_neg h42, if_neg (fun z => z.elim h50 (fun z => by omega))]; done)
    · skip
      refine q_iconst (n := 17) dX7_names_16 rfl (k := ?_)
      refine q_iret dX7_names_17 rfl (fun _ => rfl) ?_
      refine ⟨congrArg some (congrArg Sum.inl (Eq.symm ?_)), _, rfl⟩
      unfold fNames
      first
        | exact if_pos (by by_cases z1 : (0 ≤ v ∧ v < σ 1 2); by_cases z2 : (0 ≤ L ∧ L < 3); by_cases z3 : (w = 0 ∨ w = 1); exact absurd ⟨z1, z2, z3⟩ h7; exact Or.inr (Or.inr (Or.inl z3)); exact Or.inr (Or.inl z2); exact Or.inl z1)
        | exact if_pos (by omega)
        | (rw [if_neg (by omega), if_pos (by omega)]; done)
        | (rw [if_neg (by omega), if_neg (by omega), if_pos h42]; done)
        | (rw [if_neg (by omega), if_neg (by omega), if_neg h42, if_pos (Or.inl h50)]; done)
        | (rw [if_neg (by omega), if_neg (by omega), if_neg h42, if_pos (Or.inr (by omega))]; done)
        | (rw [if_neg (by omega), if_neg (by omega), if_neg h42, if_neg (fun z => z.elim h50 (fun z => by omega))]; done)
set_option maxRecDepth 100000 in
theorem lpX7_rs (σ : q_S) (L : Int) (hI0 : IX σ) (hL : 0 ≤ L ∧ L < 3) : ∀ (n : Nat) (i b : Int) (s : q_S), (n : Int) + i = σ 1 2 → 0 ≤ i → q_WP mX7_rest shX 13 [some (.inr (.inr 0)), some (.inl L), some (.inl b), some (.inl i)] [] (ov σ s) (fun r σ' => r = some (.inl (rsL (σ 1 1) (σ 2) (σ 3) (σ 6) (σ 7) L n i b)) ∧ ∃ s', σ' = ov σ s') := by
  have hvv := hI0.1.2.2.1
  intro n
  induction n with
  | zero =>
    intro i b s hi h0
    refine q_iload_n (n := 14) dX7_rest_13 rfl rfl ?_
    refine q_aload_n (n := 15) dX7_rest_14 rfl rfl ?_
    refine q_getR (n := 18) dX7_rest_15 rfl fX7_12 xi0 rfl ?_
    refine q_getIF (σ 1) (kI := 2) (n := 21) (by decide) dX7_rest_18 rfl fX7_162 xi1 rfl rfl rfl ?_
    refine q_icmp_ge (n := 24) (t := 54) dX7_rest_21 rfl (by decide) (fun h21 => ?_) (fun h21 => ?_)
    · skip
      refine q_iload_n (n := 55) dX7_rest_54 rfl rfl ?_
      refine q_iret dX7_rest_55 rfl (fun _ => rfl) ?_
      exact ⟨rfl, _, rfl⟩
    · exact absurd h21 (by omega)
  | succ n ih =>
    intro i b s hi h0
    have hv : 0 ≤ i ∧ i < σ 1 2 := ⟨h0, by omega⟩
    refine q_iload_n (n := 14) dX7_rest_13 rfl rfl ?_
    refine q_aload_n (n := 15) dX7_rest_14 rfl rfl ?_
    refine q_getR (n := 18) dX7_rest_15 rfl fX7_12 xi0 rfl ?_
    refine q_getIF (σ 1) (kI := 2) (n := 21) (by decide) dX7_rest_18 rfl fX7_162 xi1 rfl rfl rfl ?_
    refine q_icmp_ge (n := 24) (t := 54) dX7_rest_21 rfl (by decide) (fun h21 => ?_) (fun h21 => ?_)
    · exact absurd h21 (by omega)
    · skip
      refine q_aload_n (n := 25) dX7_rest_24 rfl rfl ?_
      refine q_iload_n (n := 26) dX7_rest_25 rfl rfl ?_
      refine q_iload_n (n := 27) dX7_rest_26 rfl rfl ?_
      refine q_v2 (n := 30) dX7_rest_27 rfl (zX7_askTracks i L _ _ hI0 hv) vX7_askTracks lX7_249 rfl rfl xi0 rfl (fun v27 σ27 h27 => ?_)
      obtain ⟨rfl, s1, rfl, hr⟩ := h27
      · skip
        refine q_if_ne (n := 33) (t := 48) dX7_rest_30 rfl (by decide) (fun h30 => ?_) (fun h30 => ?_)
        · skip
          refine q_iinc (n := 51) dX7_rest_48 rfl (Nat.le_of_ble_eq_true rfl) rfl (q_nwid ⟨by omega, by omega⟩) (q_s1_s (q_s1_s (q_s1_1 rfl))) ?_
          refine q_go (t := 13) dX7_rest_51 (by decide) ?_
          rw [rsL]
          first
            | (rw [if_pos ⟨h30, by omega⟩]; exact ih _ _ _ (by omega) (by omega))
            | (rw [if_neg (fun z => h30 z.1)]; exact ih _ _ _ (by omega) (by omega))
            | (rw [if_neg (fun z => by omega)]; exact ih _ _ _ (by omega) (by omega))
        · skip
          refine q_aload_n (n := 34) dX7_rest_33 rfl rfl ?_
          refine q_iload_n (n := 35) dX7_rest_34 rfl rfl ?_
          refine q_iconst (n := 36) dX7_rest_35 rfl (k := ?_)
          refine q_v2 (n := 39) dX7_rest_36 rfl (zX7_waysWith i 0 L _ _ hI0 hv hr) vX7_waysWith lX7_262 rfl rfl xi0 rfl (fun v36 σ36 h36 => ?_)
          obtain ⟨rfl, s2, rfl, hw1, hw2, hw3⟩ := h36
          · skip
            refine q_if_le (n := 42) (t := 48) dX7_rest_39 rfl (by decide) (fun h39 => ?_) (fun h39 => ?_)
            · skip
              refine q_iinc (n := 51) dX7_rest_48 rfl (Nat.le_of_ble_eq_true rfl) rfl (q_nwid ⟨by omega, by omega⟩) (q_s1_s (q_s1_s (q_s1_1 rfl))) ?_
              refine q_go (t := 13) dX7_rest_51 (by decide) ?_
              rw [rsL]
              first
                | (rw [if_pos ⟨h30, by omega⟩]; exact ih _ _ _ (by omega) (by omega))
                | (rw [if_neg (fun z => h30 z.1)]; exact ih _ _ _ (by omega) (by omega))
                | (rw [if_neg (fun z => by omega)]; exact ih _ _ _ (by omega) (by omega))
            · skip
              refine q_iload_n (n := 43) dX7_rest_42 rfl rfl ?_
              refine q_iconst (n := 44) dX7_rest_43 rfl (k := ?_)
              refine q_iload_n (n := 45) dX7_rest_44 rfl rfl ?_
              refine q_ishl (n := 46) dX7_rest_45 rfl ?_
              refine q_ior (n := 47) dX7_rest_46 rfl ?_
              refine q_istore_n (n := 48) dX7_rest_47 rfl (Nat.le_of_ble_eq_true rfl) (q_s1_s (q_s1_1 rfl)) ?_
              refine q_iinc (n := 51) dX7_rest_48 rfl (Nat.le_of_ble_eq_true rfl) rfl (q_nwid ⟨by omega, by omega⟩) (q_s1_s (q_s1_s (q_s1_1 rfl))) ?_
              refine q_go (t := 13) dX7_rest_51 (by decide) ?_
              rw [rsL]
              first
                | (rw [if_pos ⟨h30, by omega⟩]; exact ih _ _ _ (by omega) (by omega))
                | (rw [if_neg (fun z => h30 z.1)]; exact ih _ _ _ (by omega) (by omega))
                | (rw [if_neg (fun z => by omega)]; exact ih _ _ _ (by omega) (by omega))
set_option maxRecDepth 100000 in
theorem zX7_rest (L : Int) (σ s : q_S) (hI : IX σ) : q_Ct mX7_rest shX [.inr (.inr 0), .inl L] (ov σ s) (fun r σ' => r = some (.inl (fRest (σ 1 1) (σ 1 2) (σ 2) (σ 3) (σ 6) (σ 7) L)) ∧ ∃ s', σ' = ov σ s') := by
  refine q_ct 2 (by decide) rfl rfl ?_
  show q_WP mX7_rest shX 0 [some (.inr (.inr 0)), some (.inl L), none, none] [] (ov σ s) _
  have hvv := hI.1.2.2.1
  refine q_iload_n (n := 1) dX7_rest_0 rfl rfl ?_
  refine q_c1D (n := 4) dX7_rest_1 rfl (zX7_isLaw _ _) vX7_isLaw lX7_243 rfl rfl ?_
  refine q_if_ne (n := 7) (t := 9) dX7_rest_4 rfl (by decide) (fun h4 => ?_) (fun h4 => ?_)
  · have hL := q_b1.mp h4
    refine q_iconst (n := 10) dX7_rest_9 rfl (k := ?_)
    refine q_istore_n (n := 11) dX7_rest_10 rfl (Nat.le_of_ble_eq_true rfl) (q_s1_s (q_s1_1 rfl)) ?_
    refine q_iconst (n := 12) dX7_rest_11 rfl (k := ?_)
    refine q_istore_n (n := 13) dX7_rest_12 rfl (Nat.le_of_ble_eq_true rfl) (q_s1_s (q_s1_s (q_s1_1 rfl))) ?_
    unfold fRest
    rw [if_neg (fun z => z hL)]
    exact lpX7_rs σ L hI hL (σ 1 2).toNat 0 0 _ (by omega) (by omega)
  · have hL := q_b0.mp h4
    refine q_iconst (n := 8) dX7_rest_7 rfl (k := ?_)
    refine q_iret dX7_rest_8 rfl (fun _ => rfl) ?_
    unfold fRest
    rw [if_pos hL]
    exact ⟨rfl, _, rfl⟩
