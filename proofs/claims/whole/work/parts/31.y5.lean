set_option maxRecDepth 100000 in
theorem lpX7_hb (σ : q_S) (v : Int) (hI : IX σ) (hv : 0 ≤ v ∧ v < σ 1 2) (hn : 0 ≤ σ 1 1 ∧ σ 1 1 ≤ 8) (hc : mC (σ 6 v) (σ 7 v) (σ 1 1) ≤ 4) : ∀ (n : Nat) (i : Int) (s : q_S), (n : Int) + i = mC (σ 6 v) (σ 7 v) (σ 1 1) → 0 ≤ i → (∀ j, 0 ≤ j → j < mC (σ 6 v) (σ 7 v) (σ 1 1) → s 83 j = mF (σ 6 v) (σ 7 v) (σ 1 1) j) → q_WP mX7_hasBalance shX 28 [some (.inr (.inr 0)), some (.inl v), some (.inl (mC (σ 6 v) (σ 7 v) (σ 1 1))), some (.inl i)] [] (ov σ s) (fun r σ' => ∃ z, r = some z ∧ (z = .inl (if balL (σ 2) (mF (σ 6 v) (σ 7 v) (σ 1 1)) n i = true then 1 else 0) ∧ ∃ s', σ' = ov σ s')) := by
  intro n
  induction n with
  | zero =>
    intro i s hi h0 hm
    refine q_iload_n (n := 29) dX7_hasBalance_28 rfl rfl ?_
    refine q_iload_n (n := 30) dX7_hasBalance_29 rfl rfl ?_
    refine q_icmp_ge (n := 33) (t := 57) dX7_hasBalance_30 rfl (by decide) (fun h30 => ?_) (fun h30 => ?_)
    · skip
      refine q_iconst (n := 58) dX7_hasBalance_57 rfl (k := ?_)
      refine q_iret dX7_hasBalance_58 rfl (fun _ => rfl) ?_
      exact ⟨_, rfl, rfl, _, rfl⟩
    · exact absurd h30 (by omega)
  | succ n ih =>
    intro i s hi h0 hm
    have ht0 := hI.mem hv (j := i) ⟨h0, by omega⟩
    have hmi := hm i h0 (by omega)
    obtain ⟨t, ht⟩ : ∃ t, t = mF (σ 6 v) (σ 7 v) (σ 1 1) i := ⟨_, rfl⟩
    rw [← ht] at ht0 hmi
    have ht8 : 0 ≤ t ∧ t < 8 := by omega
    have hg := hI.pt ht0
    refine q_iload_n (n := 29) dX7_hasBalance_28 rfl rfl ?_
    refine q_iload_n (n := 30) dX7_hasBalance_29 rfl rfl ?_
    refine q_icmp_ge (n := 33) (t := 57) dX7_hasBalance_30 rfl (by decide) (fun h30 => ?_) (fun h30 => ?_)
    · exact absurd h30 (by omega)
    · skip
      refine q_aload_n (n := 34) dX7_hasBalance_33 rfl rfl ?_
      refine q_aload_n (n := 35) dX7_hasBalance_34 rfl rfl ?_
      refine q_getR (n := 38) dX7_hasBalance_35 rfl fX7_48 xi0 rfl ?_
      refine q_iload_n (n := 39) dX7_hasBalance_38 rfl rfl ?_
      refine q_ialoadE (t) (n := 40) dX7_hasBalance_39 rfl xi83 ⟨by omega, by omega⟩ hmi ?_
      refine q_v1D (n := 43) dX7_hasBalance_40 rfl (zX7_curveOf σ _ t hI ht0) vX7_curveOf lX7_116 rfl rfl xi0 rfl ?_
      refine q_v0D (n := 46) dX7_hasBalance_43 rfl (zC_isStraight _ _ _ t ht8 laid_cvl) vX0_isStraight lX7_180 rfl rfl (curN t ht8) rfl ?_
      refine q_if_eq (n := 49) (t := 51) dX7_hasBalance_46 rfl (by decide) (fun h46 => ?_) (fun h46 => ?_)
      · have h46 := q_b0.mp h46
        refine q_iinc (n := 54) dX7_hasBalance_51 rfl (Nat.le_of_ble_eq_true rfl) rfl (q_nwid ⟨by omega, by omega⟩) (q_s1_s (q_s1_s (q_s1_1 rfl))) ?_
        refine q_go (t := 28) dX7_hasBalance_54 (by decide) ?_
        rw [balL, ← ht, if_neg h46]
        exact ih (i + 1) _ (by omega) (by omega) (fun j h1 h2 => by rw [cvl_of (by omega)]; exact hm j h1 h2)
      · have h46 := q_b1.mp h46
        refine q_iconst (n := 50) dX7_hasBalance_49 rfl (k := ?_)
        refine q_iret dX7_hasBalance_50 rfl (fun _ => rfl) ?_
        exact ⟨_, rfl, by rw [balL, ← ht, if_pos h46]; rfl, _, rfl⟩
set_option maxRecDepth 100000 in
theorem zX7_hasBalance (v : Int) (σ s : q_S) (hI : IX σ) : q_Ct mX7_hasBalance shX [.inr (.inr 0), .inl v] (ov σ s) (fun r σ' => ∃ z, r = some z ∧ (z = .inl (if (0 ≤ v ∧ v < σ 1 2) ∧ balb (σ 2) (σ 1 1) (σ 6 v) (σ 7 v) = true then 1 else 0) ∧ ∃ s', σ' = ov σ s')) := by
  refine q_ct 2 (by decide) rfl rfl ?_
  show q_WP mX7_hasBalance shX 0 [some (.inr (.inr 0)), some (.inl v), none, none] [] (ov σ s) _
  have hI0 := hI
  refine q_aload_n (n := 1) dX7_hasBalance_0 rfl rfl ?_
  refine q_getR (n := 4) dX7_hasBalance_1 rfl fX7_12 xi0 rfl ?_
  refine q_iload_n (n := 5) dX7_hasBalance_4 rfl rfl ?_
  refine q_v1D (n := 8) dX7_hasBalance_5 rfl (zO_hasVertex _ _ _) vX3_hasVertex lX7_135 rfl rfl xi1 rfl ?_
  refine q_if_ne (n := 11) (t := 13) dX7_hasBalance_8 rfl (by decide) (fun h8 => ?_) (fun h8 => ?_)
  · have hv := q_b1.mp h8
    have hvt := hI0.tie hv
    have hn := hI0.1.2.1
    have hc := mem_C hn hvt.2.2
    refine q_aload_n (n := 14) dX7_hasBalance_13 rfl rfl ?_
    refine q_getR (n := 17) dX7_hasBalance_14 rfl fX7_12 xi0 rfl ?_
    refine q_iload_n (n := 18) dX7_hasBalance_17 rfl rfl ?_
    refine q_aload_n (n := 19) dX7_hasBalance_18 rfl rfl ?_
    refine q_getR (n := 22) dX7_hasBalance_19 rfl fX7_48 xi0 rfl ?_
    refine q_v2 (n := 25) dX7_hasBalance_22 rfl (zC_members _ _ v hI0 hv) vX3_membersOf lX7_327 rfl rfl xi1 rfl (fun v22 σ22 h22 => ?_)
    obtain ⟨rfl, s1, rfl, hm, ho⟩ := h22
    · skip
      refine q_istore_n (n := 26) dX7_hasBalance_25 rfl (Nat.le_of_ble_eq_true rfl) (q_s1_s (q_s1_1 rfl)) ?_
      refine q_iconst (n := 27) dX7_hasBalance_26 rfl (k := ?_)
      refine q_istore_n (n := 28) dX7_hasBalance_27 rfl (Nat.le_of_ble_eq_true rfl) (q_s1_s (q_s1_s (q_s1_1 rfl))) ?_
      refine (lpX7_hb σ v hI hv hn hc.1.2 (mC (σ 6 v) (σ 7 v) (σ 1 1)).toNat 0 _ (by omega) (by omega) hm).imp ?_
      rintro r σ2 ⟨z, h1, h2, h3⟩
      refine ⟨z, h1, ?_, h3⟩
      rw [h2]
      unfold balb
      by_cases e : balL (σ 2) (mF (σ 6 v) (σ 7 v) (σ 1 1)) (mC (σ 6 v) (σ 7 v) (σ 1 1)).toNat 0 = true
      · rw [if_pos e, if_pos ⟨hv, e⟩]
      · rw [if_neg e, if_neg (fun z => e z.2)]
  · have hv := q_b0.mp h8
    refine q_iconst (n := 12) dX7_hasBalance_11 rfl (k := ?_)
    refine q_iret dX7_hasBalance_12 rfl (fun _ => rfl) ?_
    exact ⟨_, rfl, by rw [if_neg (fun z => hv z.1)], _, rfl⟩
set_option maxHeartbeats 1000000 in
set_option maxRecDepth 100000 in
theorem lpX7_la (σ : q_S) (v wo : Int) (hI : IX σ) (hv : 0 ≤ v ∧ v < σ 1 2) (hb : balb (σ 2) (σ 1 1) (σ 6 v) (σ 7 v) = true) (hc : mC (σ 6 v) (σ 7 v) (σ 1 1) ≤ 4) : ∀ (n : Nat) (i : Int) (s : q_S) (a : Int × Int × Int) (o5 o6 : Option q_V), (n : Int) + i = mC (σ 6 v) (σ 7 v) (σ 1 1) → 0 ≤ i → (∀ j, 0 ≤ j → j < mC (σ 6 v) (σ 7 v) (σ 1 1) → s 83 j = mF (σ 6 v) (σ 7 v) (σ 1 1) j) → (s 81 0 = a.1 ∧ s 81 1 = a.2.1 ∧ s 81 2 = a.2.2) → jok i a → q_WP mX7_lostAt shX 23 [some (.inr (.inr 0)), some (.inl v), some (.inl wo), some (.inl (mC (σ 6 v) (σ 7 v) (σ 1 1))), some (.inl i), o5, o6] [] (ov σ s) (fun r σ' => ∃ z, r = some z ∧ (z = .inr (.inr 81) ∧ ∃ s', σ' = ov σ s' ∧ s' 81 0 = (lsL (σ 2) (σ 1 0) (σ 4 v) (σ 5 v) (σ 6 v) wo (mF (σ 6 v) (σ 7 v) (σ 1 1)) n i a).1 ∧ s' 81 1 = (lsL (σ 2) (σ 1 0) (σ 4 v) (σ 5 v) (σ 6 v) wo (mF (σ 6 v) (σ 7 v) (σ 1 1)) n i a).2.1 ∧ s' 81 2 = (lsL (σ 2) (σ 1 0) (σ 4 v) (σ 5 v) (σ 6 v) wo (mF (σ 6 v) (σ 7 v) (σ 1 1)) n i a).2.2)) := by
  have hI0 := hI
  have hvt := hI0.tie hv
  have hn := hI0.1.2.1
  have hc9 := mem_C hn hvt.2.2
  have hF9 := hI.fd
  have hvv := hI.1.2.2.1
  intro n
  induction n with
  | zero =>
    intro i s a o5 o6 hi h0 hm ha hj
    refine q_iload (n := 25) dX7_lostAt_23 rfl rfl ?_
    refine q_iload_n (n := 26) dX7_lostAt_25 rfl rfl ?_
    refine q_icmp_ge (n := 29) (t := 111) dX7_lostAt_26 rfl (by decide) (fun h26 => ?_) (fun h26 => ?_)
    · skip
      refine q_aload_n (n := 112) dX7_lostAt_111 rfl rfl ?_
      refine q_getR (n := 115) dX7_lostAt_112 rfl fX7_41 xi0 rfl ?_
      refine q_aret dX7_lostAt_115 rfl ?_
      exact ⟨_, rfl, rfl, _, rfl, ha⟩
    · exact absurd h26 (by omega)
  | succ n ih =>
    intro i s a o5 o6 hi h0 hm ha hj
    have ht0 := hI.mem hv (j := i) ⟨h0, by omega⟩
    have hmi := hm i h0 (by omega)
    obtain ⟨t, ht⟩ : ∃ t, t = mF (σ 6 v) (σ 7 v) (σ 1 1) i := ⟨_, rfl⟩
    rw [← ht] at ht0 hmi
    have ht8 : 0 ≤ t ∧ t < 8 := by omega
    have hg := hI.pt ht0
    have hB := balb_at hb (j := i) ⟨h0, by omega⟩
    rw [← ht] at hB
    have hub := un_bd hg hB
    refine q_iload (n := 25) dX7_lostAt_23 rfl rfl ?_
    refine q_iload_n (n := 26) dX7_lostAt_25 rfl rfl ?_
    refine q_icmp_ge (n := 29) (t := 111) dX7_lostAt_26 rfl (by decide) (fun h26 => ?_) (fun h26 => ?_)
    · exact absurd h26 (by omega)
    · skip
      refine q_aload_n (n := 30) dX7_lostAt_29 rfl rfl ?_
      refine q_getR (n := 33) dX7_lostAt_30 rfl fX7_48 xi0 rfl ?_
      refine q_iload (n := 35) dX7_lostAt_33 rfl rfl ?_
      refine q_ialoadE (t) (n := 36) dX7_lostAt_35 rfl xi83 ⟨by omega, by omega⟩ hmi ?_
      refine q_istore (n := 38) dX7_lostAt_36 rfl (Nat.le_of_ble_eq_true rfl) (q_s1_s (q_s1_s (q_s1_s (q_s1_s (q_s1_1 rfl))))) ?_
      refine q_iload (n := 40) dX7_lostAt_38 rfl rfl ?_
      refine q_iload_n (n := 41) dX7_lostAt_40 rfl rfl ?_
      refine q_icmp_eq (n := 44) (t := 105) dX7_lostAt_41 rfl (by decide) (fun h41 => ?_) (fun h41 => ?_)
      · skip
        refine q_iinc (n := 108) dX7_lostAt_105 rfl (Nat.le_of_ble_eq_true rfl) rfl (q_nwid ⟨by omega, by omega⟩) (q_s1_s (q_s1_s (q_s1_s (q_s1_1 rfl)))) ?_
        refine q_go (t := 23) dX7_lostAt_108 (by decide) ?_
        rw [lsL, ← ht]
        first
          | (rw [if_pos h41]
             exact ih (i + 1) s a _ _ (by omega) (by omega) hm ha (jok_up hj (by omega)))
          | (rw [if_neg h41, if_neg h55]
             exact ih (i + 1) _ _ _ _ (by omega) (by omega) (fun j h1 h2 => by rw [hd2 83 (by decide), cvl_of (by omega)]; exact hm j h1 h2) hd1 (jn_ok hj (by omega) (jX_bd hg hF9 hvt.2.1 ⟨by decide, by decide⟩) (jY_bd hg hF9 hvt.1 ⟨by decide, by decide⟩) (by omega)))
          | (rw [if_neg h41, if_pos h55]
             exact ih (i + 1) _ _ _ _ (by omega) (by omega) (fun j h1 h2 => by rw [hd2 83 (by decide), cvl_of (by omega)]; exact hm j h1 h2) hd1 (jn_ok hj (by omega) (jX_bd hg hF9 hvt.2.1 ⟨by decide, by decide⟩) (jY_bd hg hF9 hvt.1 ⟨by decide, by decide⟩) (by omega)))
      · skip
        refine q_iload (n := 46) dX7_lostAt_44 rfl rfl ?_
        refine q_aload_n (n := 47) dX7_lostAt_46 rfl rfl ?_
        refine q_getR (n := 50) dX7_lostAt_47 rfl fX7_12 xi0 rfl ?_
        refine q_getR (n := 53) dX7_lostAt_50 rfl fX7_144 xi1 rfl ?_
        refine q_iload_n (n := 54) dX7_lostAt_53 rfl rfl ?_
        refine q_ialoadF (σ 6) (n := 55) dX7_lostAt_54 rfl xi6 ⟨by omega, by omega⟩ rfl ?_
        refine q_icmp_ne (n := 58) (t := 62) dX7_lostAt_55 rfl (by decide) (fun h55 => ?_) (fun h55 => ?_)
        · skip
          refine q_iconst (n := 63) dX7_lostAt_62 rfl (k := ?_)
          refine q_istore (n := 65) dX7_lostAt_63 rfl (Nat.le_of_ble_eq_true rfl) (q_s1_s (q_s1_s (q_s1_s (q_s1_s (q_s1_s (q_s1_1 rfl)))))) ?_
          refine q_aload_n (n := 66) dX7_lostAt_65 rfl rfl ?_
          refine q_getR (n := 69) dX7_lostAt_66 rfl fX7_41 xi0 rfl ?_
          refine q_aload_n (n := 70) dX7_lostAt_69 rfl rfl ?_
          refine q_iload (n := 72) dX7_lostAt_70 rfl rfl ?_
          refine q_v1D (n := 75) dX7_lostAt_72 rfl (zX7_curveOf σ _ t hI ht0) vX7_curveOf lX7_116 rfl rfl xi0 rfl ?_
          refine q_aload_n (n := 76) dX7_lostAt_75 rfl rfl ?_
          refine q_getR (n := 79) dX7_lostAt_76 rfl fX7_12 xi0 rfl ?_
          refine q_getIF (σ 1) (kI := 0) (n := 82) (by decide) dX7_lostAt_79 rfl fX7_156 xi1 rfl rfl rfl ?_
          refine q_aload_n (n := 83) dX7_lostAt_82 rfl rfl ?_
          refine q_getR (n := 86) dX7_lostAt_83 rfl fX7_12 xi0 rfl ?_
          refine q_getR (n := 89) dX7_lostAt_86 rfl fX7_138 xi1 rfl ?_
          refine q_iload_n (n := 90) dX7_lostAt_89 rfl rfl ?_
          refine q_ialoadF (σ 4) (n := 91) dX7_lostAt_90 rfl xi4 ⟨by omega, by omega⟩ rfl ?_
          refine q_aload_n (n := 92) dX7_lostAt_91 rfl rfl ?_
          refine q_getR (n := 95) dX7_lostAt_92 rfl fX7_12 xi0 rfl ?_
          refine q_getR (n := 98) dX7_lostAt_95 rfl fX7_141 xi1 rfl ?_
          refine q_iload_n (n := 99) dX7_lostAt_98 rfl rfl ?_
          refine q_ialoadF (σ 5) (n := 100) dX7_lostAt_99 rfl xi5 ⟨by omega, by omega⟩ rfl ?_
          refine q_iload (n := 102) dX7_lostAt_100 rfl rfl ?_
          refine q_v5W (n := 105) dX7_lostAt_102 rfl (zC_join _ _ (σ 2) 81 t (σ 1 0) (σ 4 v) (σ 5 v) _ a.1 a.2.1 a.2.2 i (Or.inl rfl) ht8 laid_cvl hg hB ⟨by rw [cvl_of (by omega)]; exact ha.1, by rw [cvl_of (by omega)]; exact ha.2.1, by rw [cvl_of (by omega)]; exact ha.2.2⟩ hj (by omega) hF9 hvt.1 hvt.2.1 ⟨by decide, by decide⟩) vX4_join lX7_369 rfl rfl xi81 rfl (fun σ102 h102 => ?_)
          obtain ⟨s2, rfl, hd1, hd2⟩ := h102
          · skip
            refine q_iinc (n := 108) dX7_lostAt_105 rfl (Nat.le_of_ble_eq_true rfl) rfl (q_nwid ⟨by omega, by omega⟩) (q_s1_s (q_s1_s (q_s1_s (q_s1_1 rfl)))) ?_
            refine q_go (t := 23) dX7_lostAt_108 (by decide) ?_
            rw [lsL, ← ht]
            first
              | (rw [if_pos h41]
                 exact ih (i + 1) s a _ _ (by omega) (by omega) hm ha (jok_up hj (by omega)))
              | (rw [if_neg h41, if_neg h55]
                 exact ih (i + 1) _ _ _ _ (by omega) (by omega) (fun j h1 h2 => by rw [hd2 83 (by decide), cvl_of (by omega)]; exact hm j h1 h2) hd1 (jn_ok hj (by omega) (jX_bd hg hF9 hvt.2.1 ⟨by decide, by decide⟩) (jY_bd hg hF9 hvt.1 ⟨by decide, by decide⟩) (by omega)))
              | (rw [if_neg h41, if_pos h55]
                 exact ih (i + 1) _ _ _ _ (by omega) (by omega) (fun j h1 h2 => by rw [hd2 83 (by decide), cvl_of (by omega)]; exact hm j h1 h2) hd1 (jn_ok hj (by omega) (jX_bd hg hF9 hvt.2.1 ⟨by decide, by decide⟩) (jY_bd hg hF9 hvt.1 ⟨by decide, by decide⟩) (by omega)))
        · skip
          refine q_iconst (n := 59) dX7_lostAt_58 rfl (k := ?_)
          refine q_go (t := 63) dX7_lostAt_59 (by decide) ?_
          refine q_istore (n := 65) dX7_lostAt_63 rfl (Nat.le_of_ble_eq_true rfl) (q_s1_s (q_s1_s (q_s1_s (q_s1_s (q_s1_s (q_s1_1 rfl)))))) ?_
          refine q_aload_n (n := 66) dX7_lostAt_65 rfl rfl ?_
          refine q_getR (n := 69) dX7_lostAt_66 rfl fX7_41 xi0 rfl ?_
          refine q_aload_n (n := 70) dX7_lostAt_69 rfl rfl ?_
          refine q_iload (n := 72) dX7_lostAt_70 rfl rfl ?_
          refine q_v1D (n := 75) dX7_lostAt_72 rfl (zX7_curveOf σ _ t hI ht0) vX7_curveOf lX7_116 rfl rfl xi0 rfl ?_
          refine q_aload_n (n := 76) dX7_lostAt_75 rfl rfl ?_
          refine q_getR (n := 79) dX7_lostAt_76 rfl fX7_12 xi0 rfl ?_
          refine q_getIF (σ 1) (kI := 0) (n := 82) (by decide) dX7_lostAt_79 rfl fX7_156 xi1 rfl rfl rfl ?_
          refine q_aload_n (n := 83) dX7_lostAt_82 rfl rfl ?_
          refine q_getR (n := 86) dX7_lostAt_83 rfl fX7_12 xi0 rfl ?_
          refine q_getR (n := 89) dX7_lostAt_86 rfl fX7_138 xi1 rfl ?_
          refine q_iload_n (n := 90) dX7_lostAt_89 rfl rfl ?_
          refine q_ialoadF (σ 4) (n := 91) dX7_lostAt_90 rfl xi4 ⟨by omega, by omega⟩ rfl ?_
          refine q_aload_n (n := 92) dX7_lostAt_91 rfl rfl ?_
          refine q_getR (n := 95) dX7_lostAt_92 rfl fX7_12 xi0 rfl ?_
          refine q_getR (n := 98) dX7_lostAt_95 rfl fX7_141 xi1 rfl ?_
          refine q_iload_n (n := 99) dX7_lostAt_98 rfl rfl ?_
          refine q_ialoadF (σ 5) (n := 100) dX7_lostAt_99 rfl xi5 ⟨by omega, by omega⟩ rfl ?_
          refine q_iload (n := 102) dX7_lostAt_100 rfl rfl ?_
          refine q_v5W (n := 105) dX7_lostAt_102 rfl (zC_join _ _ (σ 2) 81 t (σ 1 0) (σ 4 v) (σ 5 v) _ a.1 a.2.1 a.2.2 i (Or.inl rfl) ht8 laid_cvl hg hB ⟨by rw [cvl_of (by omega)]; exact ha.1, by rw [cvl_of (by omega)]; exact ha.2.1, by rw [cvl_of (by omega)]; exact ha.2.2⟩ hj (by omega) hF9 hvt.1 hvt.2.1 ⟨by decide, by decide⟩) vX4_join lX7_369 rfl rfl xi81 rfl (fun σ102 h102 => ?_)
          obtain ⟨s2, rfl, hd1, hd2⟩ := h102
          · skip
            refine q_iinc (n := 108) dX7_lostAt_105 rfl (Nat.le_of_ble_eq_true rfl) rfl (q_nwid ⟨by omega, by omega⟩) (q_s1_s (q_s1_s (q_s1_s (q_s1_1 rfl)))) ?_
            refine q_go (t := 23) dX7_lostAt_108 (by decide) ?_
            rw [lsL, ← ht]
            first
              | (rw [if_pos h41]
                 exact ih (i + 1) s a _ _ (by omega) (by omega) hm ha (jok_up hj (by omega)))
              | (rw [if_neg h41, if_neg h55]
                 exact ih (i + 1) _ _ _ _ (by omega) (by omega) (fun j h1 h2 => by rw [hd2 83 (by decide), cvl_of (by omega)]; exact hm j h1 h2) hd1 (jn_ok hj (by omega) (jX_bd hg hF9 hvt.2.1 ⟨by decide, by decide⟩) (jY_bd hg hF9 hvt.1 ⟨by decide, by decide⟩) (by omega)))
              | (rw [if_neg h41, if_pos h55]
                 exact ih (i + 1) _ _ _ _ (by omega) (by omega) (fun j h1 h2 => by rw [hd2 83 (by decide), cvl_of (by omega)]; exact hm j h1 h2) hd1 (jn_ok hj (by omega) (jX_bd hg hF9 hvt.2.1 ⟨by decide, by decide⟩) (jY_bd hg hF9 hvt.1 ⟨by decide, by decide⟩) (by omega)))
set_option maxRecDepth 100000 in
theorem zX7_lostAt (v wo : Int) (σ s : q_S) (hI : IX σ) (hv : 0 ≤ v ∧ v < σ 1 2) (hb : balb (σ 2) (σ 1 1) (σ 6 v) (σ 7 v) = true) : q_Ct mX7_lostAt shX [.inr (.inr 0), .inl v, .inl wo] (ov σ s) (fun r σ' => ∃ z, r = some z ∧ (z = .inr (.inr 81) ∧ ∃ s', σ' = ov σ s' ∧ s' 81 0 = (lsb (σ 2) (σ 1 0) (σ 1 1) (σ 4 v) (σ 5 v) (σ 6 v) (σ 7 v) (wo)).1 ∧ s' 81 1 = (lsb (σ 2) (σ 1 0) (σ 1 1) (σ 4 v) (σ 5 v) (σ 6 v) (σ 7 v) (wo)).2.1 ∧ s' 81 2 = (lsb (σ 2) (σ 1 0) (σ 1 1) (σ 4 v) (σ 5 v) (σ 6 v) (σ 7 v) (wo)).2.2)) := by
  refine q_ct 4 (by decide) rfl rfl ?_
  show q_WP mX7_lostAt shX 0 [some (.inr (.inr 0)), some (.inl v), some (.inl wo), none, none, none, none] [] (ov σ s) _
  have hI0 := hI
  have hn := hI.1.2.1
  have hvt := hI.tie hv
  have hc := mem_C hn hvt.2.2
  refine q_aload_n (n := 1) dX7_lostAt_0 rfl rfl ?_
  refine q_getR (n := 4) dX7_lostAt_1 rfl fX7_12 xi0 rfl ?_
  refine q_iload_n (n := 5) dX7_lostAt_4 rfl rfl ?_
  refine q_aload_n (n := 6) dX7_lostAt_5 rfl rfl ?_
  refine q_getR (n := 9) dX7_lostAt_6 rfl fX7_48 xi0 rfl ?_
  refine q_v2 (n := 12) dX7_lostAt_9 rfl (zC_members _ _ v hI0 hv) vX3_membersOf lX7_327 rfl rfl xi1 rfl (fun v9 σ9 h9 => ?_)
  obtain ⟨rfl, s1, rfl, hm, ho⟩ := h9
  · skip
    refine q_istore_n (n := 13) dX7_lostAt_12 rfl (Nat.le_of_ble_eq_true rfl) (q_s1_s (q_s1_s (q_s1_1 rfl))) ?_
    refine q_aload_n (n := 14) dX7_lostAt_13 rfl rfl ?_
    refine q_getR (n := 17) dX7_lostAt_14 rfl fX7_41 xi0 rfl ?_
    refine q_v0W (n := 20) dX7_lostAt_17 rfl (zC_clear _ _ 81 (Or.inl rfl)) vX4_clear lX7_366 rfl rfl xi81 rfl (fun σ17 h17 => ?_)
    obtain ⟨s2, rfl, hc1, hc2⟩ := h17
    · skip
      refine q_iconst (n := 21) dX7_lostAt_20 rfl (k := ?_)
      refine q_istore (n := 23) dX7_lostAt_21 rfl (Nat.le_of_ble_eq_true rfl) (q_s1_s (q_s1_s (q_s1_s (q_s1_1 rfl)))) ?_
      exact lpX7_la σ v wo hI hv hb hc.1.2 (mC (σ 6 v) (σ 7 v) (σ 1 1)).toNat 0 _ (0, 0, 1) _ _ (by omega) (by omega) (fun j h1 h2 => by rw [hc2 83 (by decide)]; exact hm j h1 h2) hc1 jok_0
theorem zC_goesAlong (σ s : q_S) (a b wx wy : Int) (h0 : s 81 0 = a) (h1 : s 81 1 = b) (hx : q_bd wx 40) (hy : q_bd wy 40) (ha : q_bd a 100000000000000000) (hb : q_bd b 100000000000000000) : q_Ct mX4_goesAlong shX [.inr (.inr 81), .inl wx, .inl wy] (ov σ s) (fun r σ' => r = some (.inl (if a * wy = b * wx ∧ 0 < a * wx + b * wy then 1 else 0)) ∧ σ' = ov σ s) := by
  subst h0
  subst h1
  exact zX4_goesAlong 81 wx wy (ov σ s) xi81 hx hy ha hb
def fLost (F nt nv : Int) (f xs ys as os : Int → Int) (v w k : Int) : Int := if ((0 ≤ v ∧ v < nv) ∧ balb f nt (as v) (os v) = true) ∧ (0 ≤ w ∧ w ≤ 2) ∧ (k = 0 ∨ k = 1) then (if w = 2 then (if k = 0 then stren (lsb f F nt (xs v) (ys v) (as v) (os v) (-1)).1 (lsb f F nt (xs v) (ys v) (as v) (os v) (-1)).2.1 (lsb f F nt (xs v) (ys v) (as v) (os v) (-1)).2.2 else 1) else lowG (if w = 0 then (lsb f F nt (xs v) (ys v) (as v) (os v) (-1)).1 else (lsb f F nt (xs v) (ys v) (as v) (os v) (-1)).2.1) (lsb f F nt (xs v) (ys v) (as v) (os v) (-1)).2.2 k) else -9223372036854775808
def fEven (F nt nv : Int) (f xs ys as os : Int → Int) (v : Int) : Int := if ¬ (0 ≤ v ∧ v < nv) then -1 else if ¬ balb f nt (as v) (os v) = true then -2 else if (lsb f F nt (xs v) (ys v) (as v) (os v) (-1)).1 = 0 ∧ (lsb f F nt (xs v) (ys v) (as v) (os v) (-1)).2.1 = 0 then 1 else 0
def cmL (xs ys : Int → Int) (X Y x y : Int) : Nat → Int → Int → Int
  | 0, _, b => b
  | n + 1, i, b => cmL xs ys X Y x y n (i + 1) (if X * (ys i - y) = Y * (xs i - x) ∧ 0 < X * (xs i - x) + Y * (ys i - y) then q_or b (q_shl 1 i) else b)
def fCame (F nt nv : Int) (f xs ys as os : Int → Int) (v : Int) : Int := if ¬ (0 ≤ v ∧ v < nv) then -1 else if ¬ as v = -1 then -5 else if ¬ balb f nt (as v) (os v) = true then -2 else cmL xs ys (lsb f F nt (xs v) (ys v) (as v) (os v) (-1)).1 (lsb f F nt (xs v) (ys v) (as v) (os v) (-1)).2.1 (xs v) (ys v) nv.toNat 0 0
def spL (f : Int → Int) (F nt x y a o : Int) : Nat → Int → Int
  | 0, _ => -2
  | n + 1, i => if q_and (q_shr o i) 1 = 1 then (if (lsb f F nt x y a o i).1 = 0 ∧ (lsb f F nt x y a o i).2.1 = 0 then i else spL f F nt x y a o n (i + 1)) else spL f F nt x y a o n (i + 1)
def fSpoils (F nt nv : Int) (f xs ys as os : Int → Int) (v : Int) : Int := if ¬ (0 ≤ v ∧ v < nv) then -1 else if ¬ balb f nt (as v) (os v) = true then -2 else spL f F nt (xs v) (ys v) (as v) (os v) nt.toNat 0
set_option maxRecDepth 100000 in
theorem zX7_lost (v x k : Int) (σ s : q_S) (hI : IX σ) : q_Ct mX7_lost shX [.inr (.inr 0), .inl v, .inl x, .inl k] (ov σ s) (fun r σ' => r = some (.inr (.inl (fLost (σ 1 0) (σ 1 1) (σ 1 2) (σ 2) (σ 4) (σ 5) (σ 6) (σ 7) v x k))) ∧ ∃ s', σ' = ov σ s') := by
  refine q_ct 1 (by decide) rfl rfl ?_
  show q_WP mX7_lost shX 0 [some (.inr (.inr 0)), some (.inl v), some (.inl x), some (.inl k), none] [] (ov σ s) _
  have hI0 := hI
  have hK := KX_le (i := mC (σ 6 v) (σ 7 v) (σ 1 1))
  have hW := KW_le (i := mC (σ 6 v) (σ 7 v) (σ 1 1))
  refine q_aload_n (n := 1) dX7_lost_0 rfl rfl ?_
  refine q_iload_n (n := 2) dX7_lost_1 rfl rfl ?_
  refine q_v1 (n := 5) dX7_lost_2 rfl (zX7_hasBalance v _ _ hI0) vX7_hasBalance lX7_224 rfl rfl xi0 rfl (fun v2 σ2 h2 => ?_)
  obtain ⟨rfl, s1, rfl⟩ := h2
  · skip
    refine q_if_eq (n := 8) (t := 24) dX7_lost_5 rfl (by decide) (fun h5 => ?_) (fun h5 => ?_)
    · have h5 := q_b0.mp h5
      refine q_ldc2 (x := -9223372036854775808) (n := 27) dX7_lost_24 rfl kX7_133 (k := ?_)
      refine q_lret dX7_lost_27 rfl ?_
      refine ⟨congrArg some (congrArg Sum.inr (congrArg Sum.inl (Eq.symm ?_))), _, rfl⟩
      unfold fLost
      first
        | exact if_neg (fun z => by first | exact h5 z.1 | omega | exact h21 z.2.2)
        | (rw [if_pos ⟨⟨hv, hb⟩, by omega, h21⟩]
           first
             | (rw [if_pos h38, if_pos h42]; done)
             | (rw [if_pos h38, if_neg h42]; done)
             | (rw [if_neg h38]; done))
    · have h5 := q_b1.mp h5
      obtain ⟨hv, hb⟩ := h5
      have hvt := hI0.tie hv
      have hn := hI0.1.2.1
      have hc := mem_C hn hvt.2.2
      have hF9 := hI0.fd
      have hj := fun wo => lsb_ok (wo := wo) hn hvt.2.2 hF9 hvt.1 hvt.2.1 (fun t a b => hI0.pt ⟨a, b⟩) hb
      have hj1 := hj (-1)
      refine q_iload_n (n := 9) dX7_lost_8 rfl rfl ?_
      refine q_if_lt (n := 12) (t := 24) dX7_lost_9 rfl (by decide) (fun h9 => ?_) (fun h9 => ?_)
      · skip
        refine q_ldc2 (x := -9223372036854775808) (n := 27) dX7_lost_24 rfl kX7_133 (k := ?_)
        refine q_lret dX7_lost_27 rfl ?_
        refine ⟨congrArg some (congrArg Sum.inr (congrArg Sum.inl (Eq.symm ?_))), _, rfl⟩
        unfold fLost
        first
          | exact if_neg (fun z => by first | exact h5 z.1 | omega | exact h21 z.2.2)
          | (rw [if_pos ⟨⟨hv, hb⟩, by omega, h21⟩]
             first
               | (rw [if_pos h38, if_pos h42]; done)
               | (rw [if_pos h38, if_neg h42]; done)
               | (rw [if_neg h38]; done))
      · skip
        refine q_iload_n (n := 13) dX7_lost_12 rfl rfl ?_
        refine q_iconst (n := 14) dX7_lost_13 rfl (k := ?_)
        refine q_icmp_gt (n := 17) (t := 24) dX7_lost_14 rfl (by decide) (fun h14 => ?_) (fun h14 => ?_)
        · skip
          refine q_ldc2 (x := -9223372036854775808) (n := 27) dX7_lost_24 rfl kX7_133 (k := ?_)
          refine q_lret dX7_lost_27 rfl ?_
          refine ⟨congrArg some (congrArg Sum.inr (congrArg Sum.inl (Eq.symm ?_))), _, rfl⟩
          unfold fLost
          first
            | exact if_neg (fun z => by first | exact h5 z.1 | omega | exact h21 z.2.2)
            | (rw [if_pos ⟨⟨hv, hb⟩, by omega, h21⟩]
               first
                 | (rw [if_pos h38, if_pos h42]; done)
                 | (rw [if_pos h38, if_neg h42]; done)
                 | (rw [if_neg h38]; done))
        · skip
          refine q_iload_n (n := 18) dX7_lost_17 rfl rfl ?_
          refine q_c1D (n := 21) dX7_lost_18 rfl (zX7_isPart _ _) vX7_isPart lX7_177 rfl rfl ?_
          refine q_if_ne (n := 24) (t := 28) dX7_lost_21 rfl (by decide) (fun h21 => ?_) (fun h21 => ?_)
          · have h21 := q_b1.mp h21
            refine q_aload_n (n := 29) dX7_lost_28 rfl rfl ?_
            refine q_iload_n (n := 30) dX7_lost_29 rfl rfl ?_
            refine q_iconst (n := 31) dX7_lost_30 rfl (k := ?_)
            refine q_v2 (n := 34) dX7_lost_31 rfl (zX7_lostAt v (-1) _ _ hI0 hv hb) vX7_lostAt lX7_227 rfl rfl xi0 rfl (fun v31 σ31 h31 => ?_)
            obtain ⟨rfl, s2, rfl, hl0, hl1, hl2⟩ := h31
            · skip
              refine q_astore (n := 36) dX7_lost_34 rfl (Nat.le_of_ble_eq_true rfl) (q_s1_s (q_s1_s (q_s1_s (q_s1_1 rfl)))) ?_
              refine q_iload_n (n := 37) dX7_lost_36 rfl rfl ?_
              refine q_iconst (n := 38) dX7_lost_37 rfl (k := ?_)
              refine q_icmp_ne (n := 41) (t := 55) dX7_lost_38 rfl (by decide) (fun h38 => ?_) (fun h38 => ?_)
              · skip
                refine q_aload (n := 57) dX7_lost_55 rfl rfl ?_
                refine q_iload_n (n := 58) dX7_lost_57 rfl rfl ?_
                refine q_iload_n (n := 59) dX7_lost_58 rfl rfl ?_
                refine q_v2D (n := 62) dX7_lost_59 rfl (zC_partAlong _ _ 81 (lsb (σ 2) (σ 1 0) (σ 1 1) (σ 4 v) (σ 5 v) (σ 6 v) (σ 7 v) (-1)).1 (lsb (σ 2) (σ 1 0) (σ 1 1) (σ 4 v) (σ 5 v) (σ 6 v) (σ 7 v) (-1)).2.1 (lsb (σ 2) (σ 1 0) (σ 1 1) (σ 4 v) (σ 5 v) (σ 6 v) (σ 7 v) (-1)).2.2 x k (Or.inl rfl) ⟨hl0, hl1, hl2⟩ ⟨hj1.1.1, by have := hj1.1.2; omega⟩ (bd_le hj1.2.1.1 (by omega)) (bd_le hj1.2.1.2 (by omega))) vX4_partAlong lX7_217 rfl rfl xi81 rfl ?_
                refine q_lret dX7_lost_62 rfl ?_
                refine ⟨congrArg some (congrArg Sum.inr (congrArg Sum.inl (Eq.symm ?_))), _, rfl⟩
                unfold fLost
                first
                  | exact if_neg (fun z => by first | exact h5 z.1 | omega | exact h21 z.2.2)
                  | (rw [if_pos ⟨⟨hv, hb⟩, by omega, h21⟩]
                     first
                       | (rw [if_pos h38, if_pos h42]; done)
                       | (rw [if_pos h38, if_neg h42]; done)
                       | (rw [if_neg h38]; done))
              · skip
                refine q_iload_n (n := 42) dX7_lost_41 rfl rfl ?_
                refine q_if_ne (n := 45) (t := 53) dX7_lost_42 rfl (by decide) (fun h42 => ?_) (fun h42 => ?_)
                · skip
                  refine q_lconst (x := 1) (n := 54) dX7_lost_53 rfl (k := ?_)
                  refine q_lret dX7_lost_54 rfl ?_
                  refine ⟨congrArg some (congrArg Sum.inr (congrArg Sum.inl (Eq.symm ?_))), _, rfl⟩
                  unfold fLost
                  first
                    | exact if_neg (fun z => by first | exact h5 z.1 | omega | exact h21 z.2.2)
                    | (rw [if_pos ⟨⟨hv, hb⟩, by omega, h21⟩]
                       first
                         | (rw [if_pos h38, if_pos h42]; done)
                         | (rw [if_pos h38, if_neg h42]; done)
                         | (rw [if_neg h38]; done))
                · skip
                  refine q_aload (n := 47) dX7_lost_45 rfl rfl ?_
                  refine q_v0D (n := 50) dX7_lost_47 rfl (zC_strength _ _ 81 (lsb (σ 2) (σ 1 0) (σ 1 1) (σ 4 v) (σ 5 v) (σ 6 v) (σ 7 v) (-1)).1 (lsb (σ 2) (σ 1 0) (σ 1 1) (σ 4 v) (σ 5 v) (σ 6 v) (σ 7 v) (-1)).2.1 (lsb (σ 2) (σ 1 0) (σ 1 1) (σ 4 v) (σ 5 v) (σ 6 v) (σ 7 v) (-1)).2.2 (Or.inl rfl) ⟨hl0, hl1, hl2⟩ hj1.1.1 (jok_div hj1 hc.1).1 (jok_div hj1 hc.1).2) vX4_strength lX7_231 rfl rfl xi81 rfl ?_
                  refine q_go (t := 54) dX7_lost_50 (by decide) ?_
                  refine q_lret dX7_lost_54 rfl ?_
                  refine ⟨congrArg some (congrArg Sum.inr (congrArg Sum.inl (Eq.symm ?_))), _, rfl⟩
                  unfold fLost
                  first
                    | exact if_neg (fun z => by first | exact h5 z.1 | omega | exact h21 z.2.2)
                    | (rw [if_pos ⟨⟨hv, hb⟩, by omega, h21⟩]
                       first
                         | (rw [if_pos h38, if_pos h42]; done)
                         | (rw [if_pos h38, if_neg h42]; done)
                         | (rw [if_neg h38]; done))
          · have h21 := q_b0.mp h21
            refine q_ldc2 (x := -9223372036854775808) (n := 27) dX7_lost_24 rfl kX7_133 (k := ?_)
            refine q_lret dX7_lost_27 rfl ?_
            refine ⟨congrArg some (congrArg Sum.inr (congrArg Sum.inl (Eq.symm ?_))), _, rfl⟩
            unfold fLost
            first
              | exact if_neg (fun z => by first | exact h5 z.1 | omega | exact h21 z.2.2)
              | (rw [if_pos ⟨⟨hv, hb⟩, by omega, h21⟩]
                 first
                   | (rw [if_pos h38, if_pos h42]; done)
                   | (rw [if_pos h38, if_neg h42]; done)
                   | (rw [if_neg h38]; done))
set_option maxRecDepth 100000 in
theorem zX7_even (v : Int) (σ s : q_S) (hI : IX σ) : q_Ct mX7_even shX [.inr (.inr 0), .inl v] (ov σ s) (fun r σ' => r = some (.inl (fEven (σ 1 0) (σ 1 1) (σ 1 2) (σ 2) (σ 4) (σ 5) (σ 6) (σ 7) v)) ∧ ∃ s', σ' = ov σ s') := by
  refine q_ct 0 (by decide) rfl rfl ?_
  show q_WP mX7_even shX 0 [some (.inr (.inr 0)), some (.inl v)] [] (ov σ s) _
  have hI0 := hI
  refine q_aload_n (n := 1) dX7_even_0 rfl rfl ?_
  refine q_getR (n := 4) dX7_even_1 rfl fX7_12 xi0 rfl ?_
  refine q_iload_n (n := 5) dX7_even_4 rfl rfl ?_
  refine q_v1D (n := 8) dX7_even_5 rfl (zO_hasVertex _ _ _) vX3_hasVertex lX7_135 rfl rfl xi1 rfl ?_
  refine q_if_ne (n := 11) (t := 13) dX7_even_8 rfl (by decide) (fun h8 => ?_) (fun h8 => ?_)
  · have hv := q_b1.mp h8
    refine q_aload_n (n := 14) dX7_even_13 rfl rfl ?_
    refine q_iload_n (n := 15) dX7_even_14 rfl rfl ?_
    refine q_v1 (n := 18) dX7_even_15 rfl (zX7_hasBalance v _ _ hI0) vX7_hasBalance lX7_224 rfl rfl xi0 rfl (fun v15 σ15 h15 => ?_)
    obtain ⟨rfl, s1, rfl⟩ := h15
    · skip
      refine q_if_ne (n := 21) (t := 24) dX7_even_18 rfl (by decide) (fun h18 => ?_) (fun h18 => ?_)
      · have h18 := q_b1.mp h18
        have hb := h18.2
        refine q_aload_n (n := 25) dX7_even_24 rfl rfl ?_
        refine q_iload_n (n := 26) dX7_even_25 rfl rfl ?_
        refine q_iconst (n := 27) dX7_even_26 rfl (k := ?_)
        refine q_v2 (n := 30) dX7_even_27 rfl (zX7_lostAt v (-1) _ _ hI0 hv hb) vX7_lostAt lX7_227 rfl rfl xi0 rfl (fun v27 σ27 h27 => ?_)
        obtain ⟨rfl, s2, rfl, hl0, hl1, hl2⟩ := h27
        · skip
          refine q_v0D (n := 33) dX7_even_30 rfl (zC_isNone _ _ _ _ hl0 hl1) vX4_isNone lX7_234 rfl rfl xi81 rfl ?_
          refine q_if_eq (n := 36) (t := 40) dX7_even_33 rfl (by decide) (fun h33 => ?_) (fun h33 => ?_)
          · have h33 := q_b0.mp h33
            refine q_iconst (n := 41) dX7_even_40 rfl (k := ?_)
            refine q_iret dX7_even_41 rfl (fun _ => rfl) ?_
            refine ⟨congrArg some (congrArg Sum.inl (Eq.symm ?_)), _, rfl⟩
            unfold fEven
            first
              | exact if_pos hv
              | (rw [if_neg (fun z => z hv), if_pos (fun z => h18 ⟨hv, z⟩)]; done)
              | (rw [if_neg (fun z => z hv), if_neg (fun z => z hb)]; first | exact if_pos h33 | exact if_neg h33)
          · have h33 := q_b1.mp h33
            refine q_iconst (n := 37) dX7_even_36 rfl (k := ?_)
            refine q_go (t := 41) dX7_even_37 (by decide) ?_
            refine q_iret dX7_even_41 rfl (fun _ => rfl) ?_
            refine ⟨congrArg some (congrArg Sum.inl (Eq.symm ?_)), _, rfl⟩
            unfold fEven
            first
              | exact if_pos hv
              | (rw [if_neg (fun z => z hv), if_pos (fun z => h18 ⟨hv, z⟩)]; done)
              | (rw [if_neg (fun z => z hv), if_neg (fun z => z hb)]; first | exact if_pos h33 | exact if_neg h33)
      · have h18 := q_b0.mp h18
        refine q_bipush (n := 23) dX7_even_21 rfl (k := ?_)
        refine q_iret dX7_even_23 rfl (fun _ => rfl) ?_
        refine ⟨congrArg some (congrArg Sum.inl (Eq.symm ?_)), _, rfl⟩
        unfold fEven
        first
          | exact if_pos hv
          | (rw [if_neg (fun z => z hv), if_pos (fun z => h18 ⟨hv, z⟩)]; done)
          | (rw [if_neg (fun z => z hv), if_neg (fun z => z hb)]; first | exact if_pos h33 | exact if_neg h33)
  · have hv := q_b0.mp h8
    refine q_iconst (n := 12) dX7_even_11 rfl (k := ?_)
    refine q_iret dX7_even_12 rfl (fun _ => rfl) ?_
    refine ⟨congrArg some (congrArg Sum.inl (Eq.symm ?_)), _, rfl⟩
    unfold fEven
    first
      | exact if_pos hv
      | (rw [if_neg (fun z => z hv), if_pos (fun z => h18 ⟨hv, z⟩)]; done)
      | (rw [if_neg (fun z => z hv), if_neg (fun z => z hb)]; first | exact if_pos h33 | exact if_neg h33)
set_option maxRecDepth 100000 in
theorem lpX7_cm (σ s : q_S) (v : Int) (hI : IX σ) (hv : 0 ≤ v ∧ v < σ 1 2) (X Y : Int) (hX : q_bd X 100000000000000000) (hY : q_bd Y 100000000000000000) (h0X : s 81 0 = X) (h0Y : s 81 1 = Y) : ∀ (n : Nat) (i b : Int) (o5 o6 : Option q_V), (n : Int) + i = σ 1 2 → 0 ≤ i → q_WP mX7_came shX 52 [some (.inr (.inr 0)), some (.inl v), some (.inr (.inr 81)), some (.inl b), some (.inl i), o5, o6] [] (ov σ s) (fun r σ' => r = some (.inl (cmL (σ 4) (σ 5) X Y (σ 4 v) (σ 5 v) n i b)) ∧ ∃ s', σ' = ov σ s') := by
  have hvt := hI.tie hv
  have hv4 := hI.1.2.2.1
  intro n
  induction n with
  | zero =>
    intro i b o5 o6 hi h0
    refine q_iload (n := 54) dX7_came_52 rfl rfl ?_
    refine q_aload_n (n := 55) dX7_came_54 rfl rfl ?_
    refine q_getR (n := 58) dX7_came_55 rfl fX7_12 xi0 rfl ?_
    refine q_getIF (σ 1) (kI := 2) (n := 61) (by decide) dX7_came_58 rfl fX7_162 xi1 rfl rfl rfl ?_
    refine q_icmp_ge (n := 64) (t := 132) dX7_came_61 rfl (by decide) (fun h61 => ?_) (fun h61 => ?_)
    · skip
      refine q_iload_n (n := 133) dX7_came_132 rfl rfl ?_
      refine q_iret dX7_came_133 rfl (fun _ => rfl) ?_
      exact ⟨rfl, _, rfl⟩
    · exact absurd h61 (by omega)
  | succ n ih =>
    intro i b o5 o6 hi h0
    have hit := hI.tie (v := i) ⟨h0, by omega⟩
    refine q_iload (n := 54) dX7_came_52 rfl rfl ?_
    refine q_aload_n (n := 55) dX7_came_54 rfl rfl ?_
    refine q_getR (n := 58) dX7_came_55 rfl fX7_12 xi0 rfl ?_
    refine q_getIF (σ 1) (kI := 2) (n := 61) (by decide) dX7_came_58 rfl fX7_162 xi1 rfl rfl rfl ?_
    refine q_icmp_ge (n := 64) (t := 132) dX7_came_61 rfl (by decide) (fun h61 => ?_) (fun h61 => ?_)
    · exact absurd h61 (by omega)
    · skip
      refine q_aload_n (n := 65) dX7_came_64 rfl rfl ?_
      refine q_getR (n := 68) dX7_came_65 rfl fX7_12 xi0 rfl ?_
      refine q_getR (n := 71) dX7_came_68 rfl fX7_138 xi1 rfl ?_
      refine q_iload (n := 73) dX7_came_71 rfl rfl ?_
      refine q_ialoadF (σ 4) (n := 74) dX7_came_73 rfl xi4 ⟨by omega, by omega⟩ rfl ?_
      have b17_ := hit.1
      refine q_aload_n (n := 75) dX7_came_74 rfl rfl ?_
      refine q_getR (n := 78) dX7_came_75 rfl fX7_12 xi0 rfl ?_
      refine q_getR (n := 81) dX7_came_78 rfl fX7_138 xi1 rfl ?_
      refine q_iload_n (n := 82) dX7_came_81 rfl rfl ?_
      refine q_ialoadF (σ 4) (n := 83) dX7_came_82 rfl xi4 ⟨by omega, by omega⟩ rfl ?_
      have b18_ := hvt.1
      have b19_ := bd_sub (C := 40) b17_ b18_ (by decide)
      refine q_isubS (n := 84) dX7_came_83 rfl (bd_32 b19_ (by decide)) ?_
      refine q_istore (n := 86) dX7_came_84 rfl (Nat.le_of_ble_eq_true rfl) (q_s1_s (q_s1_s (q_s1_s (q_s1_s (q_s1_1 rfl))))) ?_
      refine q_aload_n (n := 87) dX7_came_86 rfl rfl ?_
      refine q_getR (n := 90) dX7_came_87 rfl fX7_12 xi0 rfl ?_
      refine q_getR (n := 93) dX7_came_90 rfl fX7_141 xi1 rfl ?_
      refine q_iload (n := 95) dX7_came_93 rfl rfl ?_
      refine q_ialoadF (σ 5) (n := 96) dX7_came_95 rfl xi5 ⟨by omega, by omega⟩ rfl ?_
      have b20_ := hit.2.1
      refine q_aload_n (n := 97) dX7_came_96 rfl rfl ?_
      refine q_getR (n := 100) dX7_came_97 rfl fX7_12 xi0 rfl ?_
      refine q_getR (n := 103) dX7_came_100 rfl fX7_141 xi1 rfl ?_
      refine q_iload_n (n := 104) dX7_came_103 rfl rfl ?_
      refine q_ialoadF (σ 5) (n := 105) dX7_came_104 rfl xi5 ⟨by omega, by omega⟩ rfl ?_
      have b21_ := hvt.2.1
      have b22_ := bd_sub (C := 40) b20_ b21_ (by decide)
      refine q_isubS (n := 106) dX7_came_105 rfl (bd_32 b22_ (by decide)) ?_
      refine q_istore (n := 108) dX7_came_106 rfl (Nat.le_of_ble_eq_true rfl) (q_s1_s (q_s1_s (q_s1_s (q_s1_s (q_s1_s (q_s1_1 rfl)))))) ?_
      refine q_aload_n (n := 109) dX7_came_108 rfl rfl ?_
      refine q_iload (n := 111) dX7_came_109 rfl rfl ?_
      refine q_iload (n := 113) dX7_came_111 rfl rfl ?_
      refine q_v2D (n := 116) dX7_came_113 rfl (zC_goesAlong _ _ X Y _ _ h0X h0Y (bd_sub hit.1 hvt.1 (by decide)) (bd_sub hit.2.1 hvt.2.1 (by decide)) hX hY) vX4_goesAlong lX7_237 rfl rfl xi81 rfl ?_
      refine q_if_eq (n := 119) (t := 126) dX7_came_116 rfl (by decide) (fun h116 => ?_) (fun h116 => ?_)
      · have h116 := q_b0.mp h116
        refine q_iinc (n := 129) dX7_came_126 rfl (Nat.le_of_ble_eq_true rfl) rfl (q_nwid ⟨by omega, by omega⟩) (q_s1_s (q_s1_s (q_s1_s (q_s1_1 rfl)))) ?_
        refine q_go (t := 52) dX7_came_129 (by decide) ?_
        rw [cmL]
        first
          | (rw [if_pos h116]; exact ih _ _ _ _ (by omega) (by omega))
          | (rw [if_neg h116]; exact ih _ _ _ _ (by omega) (by omega))
      · have h116 := q_b1.mp h116
        refine q_iload_n (n := 120) dX7_came_119 rfl rfl ?_
        refine q_iconst (n := 121) dX7_came_120 rfl (k := ?_)
        refine q_iload (n := 123) dX7_came_121 rfl rfl ?_
        refine q_ishl (n := 124) dX7_came_123 rfl ?_
        refine q_ior (n := 125) dX7_came_124 rfl ?_
        refine q_istore_n (n := 126) dX7_came_125 rfl (Nat.le_of_ble_eq_true rfl) (q_s1_s (q_s1_s (q_s1_1 rfl))) ?_
        refine q_iinc (n := 129) dX7_came_126 rfl (Nat.le_of_ble_eq_true rfl) rfl (q_nwid ⟨by omega, by omega⟩) (q_s1_s (q_s1_s (q_s1_s (q_s1_1 rfl)))) ?_
        refine q_go (t := 52) dX7_came_129 (by decide) ?_
        rw [cmL]
        first
          | (rw [if_pos h116]; exact ih _ _ _ _ (by omega) (by omega))
          | (rw [if_neg h116]; exact ih _ _ _ _ (by omega) (by omega))
set_option maxRecDepth 100000 in
theorem zX7_came (v : Int) (σ s : q_S) (hI : IX σ) : q_Ct mX7_came shX [.inr (.inr 0), .inl v] (ov σ s) (fun r σ' => r = some (.inl (fCame (σ 1 0) (σ 1 1) (σ 1 2) (σ 2) (σ 4) (σ 5) (σ 6) (σ 7) v)) ∧ ∃ s', σ' = ov σ s') := by
  refine q_ct 5 (by decide) rfl rfl ?_
  show q_WP mX7_came shX 0 [some (.inr (.inr 0)), some (.inl v), none, none, none, none, none] [] (ov σ s) _
  have hI0 := hI
  have hv4 := hI.1.2.2.1
  refine q_aload_n (n := 1) dX7_came_0 rfl rfl ?_
  refine q_getR (n := 4) dX7_came_1 rfl fX7_12 xi0 rfl ?_
  refine q_iload_n (n := 5) dX7_came_4 rfl rfl ?_
  refine q_v1D (n := 8) dX7_came_5 rfl (zO_hasVertex _ _ _) vX3_hasVertex lX7_135 rfl rfl xi1 rfl ?_
  refine q_if_ne (n := 11) (t := 13) dX7_came_8 rfl (by decide) (fun h8 => ?_) (fun h8 => ?_)
  · have hv := q_b1.mp h8
    refine q_aload_n (n := 14) dX7_came_13 rfl rfl ?_
    refine q_getR (n := 17) dX7_came_14 rfl fX7_12 xi0 rfl ?_
    refine q_getR (n := 20) dX7_came_17 rfl fX7_144 xi1 rfl ?_
    refine q_iload_n (n := 21) dX7_came_20 rfl rfl ?_
    refine q_ialoadF (σ 6) (n := 22) dX7_came_21 rfl xi6 ⟨by omega, by omega⟩ rfl ?_
    refine q_iconst (n := 23) dX7_came_22 rfl (k := ?_)
    refine q_icmp_eq (n := 26) (t := 29) dX7_came_23 rfl (by decide) (fun h23 => ?_) (fun h23 => ?_)
    · skip
      refine q_aload_n (n := 30) dX7_came_29 rfl rfl ?_
      refine q_iload_n (n := 31) dX7_came_30 rfl rfl ?_
      refine q_v1 (n := 34) dX7_came_31 rfl (zX7_hasBalance v _ _ hI0) vX7_hasBalance lX7_224 rfl rfl xi0 rfl (fun v31 σ31 h31 => ?_)
      obtain ⟨rfl, s1, rfl⟩ := h31
      · skip
        refine q_if_ne (n := 37) (t := 40) dX7_came_34 rfl (by decide) (fun h34 => ?_) (fun h34 => ?_)
        · have h34 := q_b1.mp h34
          have hb := h34.2
          have hvt := hI0.tie hv
          have hn := hI0.1.2.1
          have hc := mem_C hn hvt.2.2
          have hF9 := hI0.fd
          have hj := fun wo => lsb_ok (wo := wo) hn hvt.2.2 hF9 hvt.1 hvt.2.1 (fun t a b => hI0.pt ⟨a, b⟩) hb
          have hj1 := hj (-1)
          have hK3 := hc.2.1 h23
          refine q_aload_n (n := 41) dX7_came_40 rfl rfl ?_
          refine q_iload_n (n := 42) dX7_came_41 rfl rfl ?_
          refine q_iconst (n := 43) dX7_came_42 rfl (k := ?_)
          refine q_v2 (n := 46) dX7_came_43 rfl (zX7_lostAt v (-1) _ _ hI0 hv hb) vX7_lostAt lX7_227 rfl rfl xi0 rfl (fun v43 σ43 h43 => ?_)
          obtain ⟨rfl, s2, rfl, hl0, hl1, hl2⟩ := h43
          · skip
            refine q_astore_n (n := 47) dX7_came_46 rfl (Nat.le_of_ble_eq_true rfl) (q_s1_s (q_s1_1 rfl)) ?_
            refine q_iconst (n := 48) dX7_came_47 rfl (k := ?_)
            refine q_istore_n (n := 49) dX7_came_48 rfl (Nat.le_of_ble_eq_true rfl) (q_s1_s (q_s1_s (q_s1_1 rfl))) ?_
            refine q_iconst (n := 50) dX7_came_49 rfl (k := ?_)
            refine q_istore (n := 52) dX7_came_50 rfl (Nat.le_of_ble_eq_true rfl) (q_s1_s (q_s1_s (q_s1_s (q_s1_1 rfl)))) ?_
            have hKX : KX (mC (σ 6 v) (σ 7 v) (σ 1 1)) ≤ 100000000000000000 := by
              rcases (by omega : mC (σ 6 v) (σ 7 v) (σ 1 1) = 0 ∨ mC (σ 6 v) (σ 7 v) (σ 1 1) = 1 ∨ mC (σ 6 v) (σ 7 v) (σ 1 1) = 2 ∨ mC (σ 6 v) (σ 7 v) (σ 1 1) = 3) with e | e | e | e <;> rw [e] <;> decide
            unfold fCame
            rw [if_neg (fun z => z hv), if_neg (fun z => z h23), if_neg (fun z => z hb)]
            exact lpX7_cm σ _ v hI hv _ _ (bd_le hj1.2.1.1 hKX) (bd_le hj1.2.1.2 hKX) hl0 hl1 (σ 1 2).toNat 0 0 _ _ (by omega) (by omega)
        · have h34 := q_b0.mp h34
          refine q_bipush (n := 39) dX7_came_37 rfl (k := ?_)
          refine q_iret dX7_came_39 rfl (fun _ => rfl) ?_
          refine ⟨congrArg some (congrArg Sum.inl (Eq.symm ?_)), _, rfl⟩
          unfold fCame
          first
            | exact if_pos hv
            | (rw [if_neg (fun z => z hv), if_pos h23]; done)
            | (rw [if_neg (fun z => z hv), if_neg (fun z => z h23), if_pos (fun z => h34 ⟨hv, z⟩)]; done)
    · skip
      refine q_bipush (n := 28) dX7_came_26 rfl (k := ?_)
      refine q_iret dX7_came_28 rfl (fun _ => rfl) ?_
      refine ⟨congrArg some (congrArg Sum.inl (Eq.symm ?_)), _, rfl⟩
      unfold fCame
      first
        | exact if_pos hv
        | (rw [if_neg (fun z => z hv), if_pos h23]; done)
        | (rw [if_neg (fun z => z hv), if_neg (fun z => z h23), if_pos (fun z => h34 ⟨hv, z⟩)]; done)
  · have hv := q_b0.mp h8
    refine q_iconst (n := 12) dX7_came_11 rfl (k := ?_)
    refine q_iret dX7_came_12 rfl (fun _ => rfl) ?_
    refine ⟨congrArg some (congrArg Sum.inl (Eq.symm ?_)), _, rfl⟩
    unfold fCame
    first
      | exact if_pos hv
      | (rw [if_neg (fun z => z hv), if_pos h23]; done)
      | (rw [if_neg (fun z => z hv), if_neg (fun z => z h23), if_pos (fun z => h34 ⟨hv, z⟩)]; done)
theorem zO_goesOut (σ s : q_S) (v t : Int) (hv : 0 ≤ v ∧ v < 4) : q_Ct mX3_goesOut shX [.inr (.inr 1), .inl v, .inl t] (ov σ s) (fun r σ' => r = some (.inl (if q_and (q_shr (σ 7 v) t) 1 = 1 then 1 else 0)) ∧ σ' = ov σ s) := zX3_goesOut v t (ov σ s) hv
set_option maxRecDepth 100000 in
theorem lpX7_sp (σ : q_S) (v : Int) (hI0 : IX σ) (hv : 0 ≤ v ∧ v < σ 1 2) (hb : balb (σ 2) (σ 1 1) (σ 6 v) (σ 7 v) = true) (hv4 : 0 ≤ v ∧ v < 4) (h8 : σ 1 1 ≤ 8) : ∀ (n : Nat) (i : Int) (s : q_S), (n : Int) + i = σ 1 1 → 0 ≤ i → q_WP mX7_spoils shX 26 [some (.inr (.inr 0)), some (.inl v), some (.inl i)] [] (ov σ s) (fun r σ' => r = some (.inl (spL (σ 2) (σ 1 0) (σ 1 1) (σ 4 v) (σ 5 v) (σ 6 v) (σ 7 v) n i)) ∧ ∃ s', σ' = ov σ s') := by
  intro n
  induction n with
  | zero =>
    intro i s hi h0
    refine q_iload_n (n := 27) dX7_spoils_26 rfl rfl ?_
    refine q_aload_n (n := 28) dX7_spoils_27 rfl rfl ?_
    refine q_getR (n := 31) dX7_spoils_28 rfl fX7_12 xi0 rfl ?_
    refine q_getIF (σ 1) (kI := 1) (n := 34) (by decide) dX7_spoils_31 rfl fX7_159 xi1 rfl rfl rfl ?_
    refine q_icmp_ge (n := 37) (t := 69) dX7_spoils_34 rfl (by decide) (fun h34 => ?_) (fun h34 => ?_)
    · skip
      refine q_bipush (n := 71) dX7_spoils_69 rfl (k := ?_)
      refine q_iret dX7_spoils_71 rfl (fun _ => rfl) ?_
      exact ⟨rfl, _, rfl⟩
    · exact absurd h34 (by omega)
  | succ n ih =>
    intro i s hi h0
    refine q_iload_n (n := 27) dX7_spoils_26 rfl rfl ?_
    refine q_aload_n (n := 28) dX7_spoils_27 rfl rfl ?_
    refine q_getR (n := 31) dX7_spoils_28 rfl fX7_12 xi0 rfl ?_
    refine q_getIF (σ 1) (kI := 1) (n := 34) (by decide) dX7_spoils_31 rfl fX7_159 xi1 rfl rfl rfl ?_
    refine q_icmp_ge (n := 37) (t := 69) dX7_spoils_34 rfl (by decide) (fun h34 => ?_) (fun h34 => ?_)
    · exact absurd h34 (by omega)
    · skip
      refine q_aload_n (n := 38) dX7_spoils_37 rfl rfl ?_
      refine q_getR (n := 41) dX7_spoils_38 rfl fX7_12 xi0 rfl ?_
      refine q_iload_n (n := 42) dX7_spoils_41 rfl rfl ?_
      refine q_iload_n (n := 43) dX7_spoils_42 rfl rfl ?_
      refine q_v2D (n := 46) dX7_spoils_43 rfl (zO_goesOut _ _ _ _ hv4) vX3_goesOut lX7_240 rfl rfl xi1 rfl ?_
      refine q_if_eq (n := 49) (t := 63) dX7_spoils_46 rfl (by decide) (fun h46 => ?_) (fun h46 => ?_)
      · have h46 := q_b0.mp h46
        refine q_iinc (n := 66) dX7_spoils_63 rfl (Nat.le_of_ble_eq_true rfl) rfl (q_nwid ⟨by omega, by omega⟩) (q_s1_s (q_s1_1 rfl)) ?_
        refine q_go (t := 26) dX7_spoils_66 (by decide) ?_
        rw [spL]
        first
          | (rw [if_pos h46, if_neg h58]; exact ih _ _ (by omega) (by omega))
          | (rw [if_neg h46]; exact ih _ _ (by omega) (by omega))
      · have h46 := q_b1.mp h46
        refine q_aload_n (n := 50) dX7_spoils_49 rfl rfl ?_
        refine q_iload_n (n := 51) dX7_spoils_50 rfl rfl ?_
        refine q_iload_n (n := 52) dX7_spoils_51 rfl rfl ?_
        refine q_v2 (n := 55) dX7_spoils_52 rfl (zX7_lostAt v i _ _ hI0 hv hb) vX7_lostAt lX7_227 rfl rfl xi0 rfl (fun v52 σ52 h52 => ?_)
        obtain ⟨rfl, s2, rfl, hl0, hl1, hl2⟩ := h52
        · skip
          refine q_v0D (n := 58) dX7_spoils_55 rfl (zC_isNone _ _ _ _ hl0 hl1) vX4_isNone lX7_234 rfl rfl xi81 rfl ?_
          refine q_if_eq (n := 61) (t := 63) dX7_spoils_58 rfl (by decide) (fun h58 => ?_) (fun h58 => ?_)
          · have h58 := q_b0.mp h58
            refine q_iinc (n := 66) dX7_spoils_63 rfl (Nat.le_of_ble_eq_true rfl) rfl (q_nwid ⟨by omega, by omega⟩) (q_s1_s (q_s1_1 rfl)) ?_
            refine q_go (t := 26) dX7_spoils_66 (by decide) ?_
            rw [spL]
            first
              | (rw [if_pos h46, if_neg h58]; exact ih _ _ (by omega) (by omega))
              | (rw [if_neg h46]; exact ih _ _ (by omega) (by omega))
          · have h58 := q_b1.mp h58
            refine q_iload_n (n := 62) dX7_spoils_61 rfl rfl ?_
            refine q_iret dX7_spoils_62 rfl (fun _ => rfl) ?_
            exact ⟨by rw [spL, if_pos h46, if_pos h58], _, rfl⟩
set_option maxRecDepth 100000 in
theorem zX7_spoils (v : Int) (σ s : q_S) (hI : IX σ) : q_Ct mX7_spoils shX [.inr (.inr 0), .inl v] (ov σ s) (fun r σ' => r = some (.inl (fSpoils (σ 1 0) (σ 1 1) (σ 1 2) (σ 2) (σ 4) (σ 5) (σ 6) (σ 7) v)) ∧ ∃ s', σ' = ov σ s') := by
  refine q_ct 1 (by decide) rfl rfl ?_
  show q_WP mX7_spoils shX 0 [some (.inr (.inr 0)), some (.inl v), none] [] (ov σ s) _
  have hI0 := hI
  have hvv := hI.1.2.2.1
  have hn := hI.1.2.1
  refine q_aload_n (n := 1) dX7_spoils_0 rfl rfl ?_
  refine q_getR (n := 4) dX7_spoils_1 rfl fX7_12 xi0 rfl ?_
  refine q_iload_n (n := 5) dX7_spoils_4 rfl rfl ?_
  refine q_v1D (n := 8) dX7_spoils_5 rfl (zO_hasVertex _ _ _) vX3_hasVertex lX7_135 rfl rfl xi1 rfl ?_
  refine q_if_ne (n := 11) (t := 13) dX7_spoils_8 rfl (by decide) (fun h8 => ?_) (fun h8 => ?_)
  · have hv := q_b1.mp h8
    refine q_aload_n (n := 14) dX7_spoils_13 rfl rfl ?_
    refine q_iload_n (n := 15) dX7_spoils_14 rfl rfl ?_
    refine q_v1 (n := 18) dX7_spoils_15 rfl (zX7_hasBalance v _ _ hI0) vX7_hasBalance lX7_224 rfl rfl xi0 rfl (fun v15 σ15 h15 => ?_)
    obtain ⟨rfl, s1, rfl⟩ := h15
    · skip
      refine q_if_ne (n := 21) (t := 24) dX7_spoils_18 rfl (by decide) (fun h18 => ?_) (fun h18 => ?_)
      · have h18 := q_b1.mp h18
        have hb := h18.2
        refine q_iconst (n := 25) dX7_spoils_24 rfl (k := ?_)
        refine q_istore_n (n := 26) dX7_spoils_25 rfl (Nat.le_of_ble_eq_true rfl) (q_s1_s (q_s1_1 rfl)) ?_
        unfold fSpoils
        rw [if_neg (fun z => z hv), if_neg (fun z => z hb)]
        exact lpX7_sp σ v hI hv hb (by omega) hn.2 (σ 1 1).toNat 0 _ (by omega) (by omega)
      · have h18 := q_b0.mp h18
        refine q_bipush (n := 23) dX7_spoils_21 rfl (k := ?_)
        refine q_iret dX7_spoils_23 rfl (fun _ => rfl) ?_
        refine ⟨congrArg some (congrArg Sum.inl (Eq.symm ?_)), _, rfl⟩
        unfold fSpoils
        first
          | exact if_pos hv
          | (rw [if_neg (fun z => z hv), if_pos (fun z => h18 ⟨hv, z⟩)]; done)
  · have hv := q_b0.mp h8
    refine q_iconst (n := 12) dX7_spoils_11 rfl (k := ?_)
    refine q_iret dX7_spoils_12 rfl (fun _ => rfl) ?_
    refine ⟨congrArg some (congrArg Sum.inl (Eq.symm ?_)), _, rfl⟩
    unfold fSpoils
    first
      | exact if_pos hv
      | (rw [if_neg (fun z => z hv), if_pos (fun z => h18 ⟨hv, z⟩)]; done)
