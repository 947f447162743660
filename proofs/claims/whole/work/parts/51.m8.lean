set_option maxHeartbeats 1000000 in
set_option maxRecDepth 100000 in
theorem lpX8_ho (σ : q_S) (v : Int) (hI : IM σ) (hv : 0 ≤ v ∧ v < σ 1 2) (hh : hotB (σ 1 1) (σ 1 2) (pM (σ 1) 2) (pM (σ 1) 3) (pM (σ 1) 6) (pM (σ 1) 7) v = true) : ∀ (n : Nat) (i e0 : Int) (s : q_S) (o5 : Option q_V), (n : Int) + i = mC (pM (σ 1) 6 v) (pM (σ 1) 7 v) (σ 1 1) → 0 ≤ i → s 0 16 = mC (pM (σ 1) 6 v) (pM (σ 1) 7 v) (σ 1 1) → (∀ j, 0 ≤ j → j < mC (pM (σ 1) 6 v) (pM (σ 1) 7 v) (σ 1 1) → s 9 j = mF (pM (σ 1) 6 v) (pM (σ 1) 7 v) (σ 1 1) j) → (-30000000 * i ≤ e0 ∧ e0 ≤ 30000000 * i) → q_WP mX8_heatOf shM 10 [some (.inr (.inr 0)), some (.inl v), some (.inr (.inl e0)), none, some (.inl i), o5, none] [] (ovM σ s) (fun r σ' => ∃ z, r = some z ∧ (z = .inr (.inl (htL (pM (σ 1) 2) (σ 1 0) (pM (σ 1) 4 v) (pM (σ 1) 5 v) (pM (σ 1) 6 v) (pM (σ 1) 3) (mF (pM (σ 1) 6 v) (pM (σ 1) 7 v) (σ 1 1)) n i e0)) ∧ ∃ s', σ' = ovM σ s')) := by
  have hn := hI.nt
  have hvv := hI.nv
  have hvt := hI.tie hv
  have hmc := mem_C hn hvt.2.2
  have hq := hI.fq
  have hh2 := hotB_t.mp hh
  have hb := hh2.1.2
  have hin := hh2.2.1
  have hmf := (mem_F hn hvt.2.2).2 hin
  intro n
  induction n with
  | zero =>
    intro i e0 s o5 hi h0 hm0 hm he0
    refine q_iload (n := 12) dX8_heatOf_10 rfl rfl ?_
    refine q_aload_n (n := 13) dX8_heatOf_12 rfl rfl ?_
    refine q_getIE (mC (pM (σ 1) 6 v) (pM (σ 1) 7 v) (σ 1 1)) (kI := 16) (n := 16) (by decide) dX8_heatOf_13 rfl fX8_218 mi0 rfl rfl hm0 ?_
    refine q_icmp_ge (n := 19) (t := 77) dX8_heatOf_16 rfl (by decide) (fun h16 => ?_) (fun h16 => ?_)
    · skip
      refine q_lload_n (n := 78) dX8_heatOf_77 rfl rfl ?_
      refine q_lret dX8_heatOf_78 rfl ?_
      exact ⟨_, rfl, rfl, s, rfl⟩
    · exact absurd h16 (by omega)
  | succ n ih =>
    intro i e0 s o5 hi h0 hm0 hm he0
    have ht0 := hI.mem hv (j := i) ⟨h0, by omega⟩
    have hmi := hm i h0 (by omega)
    obtain ⟨t, ht⟩ : ∃ t, t = mF (pM (σ 1) 6 v) (pM (σ 1) 7 v) (σ 1 1) i := ⟨_, rfl⟩
    rw [← ht] at ht0 hmi
    have hg := hI.pt ht0
    have hB := balb_at hb (j := i) ⟨h0, by omega⟩
    have hkd := hI.kd ht0
    have hkt := tlb_at hh2.2.2 (j := i) ⟨h0, by omega⟩
    have hkr := hI.2.1 t ht0.1 ht0.2
    have hti : t = (pM (σ 1) 6 v) ↔ i = 0 := by
      rw [ht]
      constructor
      · intro z
        by_cases z2 : i = 0
        · exact z2
        · exact absurd z (hmf.2 i (by omega) (by omega))
      · intro z
        rw [z]
        exact hmf.1
    rw [← ht] at hB hkt
    have e3 : (pM (σ 1) 3) t = if σ 1 (51 + t) = -1 then 12 else σ 1 (51 + t) := rfl
    have ek : σ 1 (51 + t) = (pM (σ 1) 3) t := by
      rw [e3] at hkt ⊢
      split at hkt
      · exact absurd rfl hkt
      · rw [if_neg (by assumption)]
    have hk : 0 ≤ (pM (σ 1) 3) t ∧ (pM (σ 1) 3) t < 12 := by omega
    have hen := engy_bd hg hB hq hvt.1 hvt.2.1 hk
    refine q_iload (n := 12) dX8_heatOf_10 rfl rfl ?_
    refine q_aload_n (n := 13) dX8_heatOf_12 rfl rfl ?_
    refine q_getIE (mC (pM (σ 1) 6 v) (pM (σ 1) 7 v) (σ 1 1)) (kI := 16) (n := 16) (by decide) dX8_heatOf_13 rfl fX8_218 mi0 rfl rfl hm0 ?_
    refine q_icmp_ge (n := 19) (t := 77) dX8_heatOf_16 rfl (by decide) (fun h16 => ?_) (fun h16 => ?_)
    · exact absurd h16 (by omega)
    · skip
      refine q_aload_n (n := 20) dX8_heatOf_19 rfl rfl ?_
      refine q_aload_n (n := 21) dX8_heatOf_20 rfl rfl ?_
      refine q_getR (n := 24) dX8_heatOf_21 rfl fX8_48 mi0 rfl ?_
      refine q_iload (n := 26) dX8_heatOf_24 rfl rfl ?_
      refine q_ialoadE (t) (n := 27) dX8_heatOf_26 rfl mi9 ⟨by omega, by omega⟩ hmi ?_
      refine q_aload_n (n := 28) dX8_heatOf_27 rfl rfl ?_
      refine q_iload_n (n := 29) dX8_heatOf_28 rfl rfl ?_
      refine q_iconst (n := 30) dX8_heatOf_29 rfl (k := ?_)
      refine q_v2D (n := 33) dX8_heatOf_30 rfl (zX8_vP0 _ σ _ ⟨by omega, by omega⟩) vX8_vertexAt lX8_185 rfl rfl mi0 rfl ?_
      refine q_aload_n (n := 34) dX8_heatOf_33 rfl rfl ?_
      refine q_iload_n (n := 35) dX8_heatOf_34 rfl rfl ?_
      refine q_iconst (n := 36) dX8_heatOf_35 rfl (k := ?_)
      refine q_v2D (n := 39) dX8_heatOf_36 rfl (zX8_vP1 _ σ _ ⟨by omega, by omega⟩) vX8_vertexAt lX8_185 rfl rfl mi0 rfl ?_
      refine q_aload_n (n := 40) dX8_heatOf_39 rfl rfl ?_
      refine q_aload_n (n := 41) dX8_heatOf_40 rfl rfl ?_
      refine q_getR (n := 44) dX8_heatOf_41 rfl fX8_48 mi0 rfl ?_
      refine q_iload (n := 46) dX8_heatOf_44 rfl rfl ?_
      refine q_ialoadE (t) (n := 47) dX8_heatOf_46 rfl mi9 ⟨by omega, by omega⟩ hmi ?_
      refine q_v1D (n := 50) dX8_heatOf_47 rfl (zX8_kindOf _ σ _ (by omega)) vX8_kindOf lX8_164 rfl rfl mi0 rfl ?_
      refine q_topI ((pM (σ 1) 3) t) ek ?_
      refine q_v4 (n := 53) dX8_heatOf_50 rfl (zX8_energyOf t (pM (σ 1) 4 v) (pM (σ 1) 5 v) ((pM (σ 1) 3) t) σ _ hI ht0 hB hvt.1 hvt.2.1 hk) vX8_energyOf lX8_303 rfl rfl mi0 rfl (fun v50 σ50 h50 => ?_)
      obtain ⟨rfl, s2, rfl, hfr⟩ := h50
      · skip
        refine q_lstore (n := 55) dX8_heatOf_53 rfl (Nat.le_of_ble_eq_true rfl) (q_s2_s (q_s2_s (q_s2_s (q_s2_s (q_s2_1 rfl))))) ?_
        refine q_lload_n (n := 56) dX8_heatOf_55 rfl rfl ?_
        refine q_iload (n := 58) dX8_heatOf_56 rfl rfl ?_
        refine q_if_ne (n := 61) (t := 66) dX8_heatOf_58 rfl (by decide) (fun h58 => ?_) (fun h58 => ?_)
        · skip
          refine q_lload (n := 68) dX8_heatOf_66 rfl rfl ?_
          refine q_lnegS (n := 69) dX8_heatOf_68 rfl (by unfold q_i64; omega) ?_
          refine q_laddS (n := 70) dX8_heatOf_69 rfl (by unfold q_i64; omega) ?_
          refine q_lstore_n (n := 71) dX8_heatOf_70 rfl (Nat.le_of_ble_eq_true rfl) (q_s2_s (q_s2_1 rfl)) ?_
          refine q_iinc (n := 74) dX8_heatOf_71 rfl (Nat.le_of_ble_eq_true rfl) rfl (q_nwid ⟨by omega, by omega⟩) (q_s1_s (q_s1_s (q_s1_s (q_s1_1 rfl)))) ?_
          refine q_go (t := 10) dX8_heatOf_74 (by decide) ?_
          rw [htL, ← ht]
          first
            | (rw [if_pos (hti.mpr h58)]
               exact ih (i + 1) _ _ _ (by omega) (by omega) (by rw [hfr 0 16 (by decide)]; exact hm0) (fun j h1 h2 => by rw [hfr 9 j (by omega)]; exact hm j h1 h2) (by omega))
            | (rw [if_neg (fun z => h58 (hti.mp z))]
               exact ih (i + 1) _ _ _ (by omega) (by omega) (by rw [hfr 0 16 (by decide)]; exact hm0) (fun j h1 h2 => by rw [hfr 9 j (by omega)]; exact hm j h1 h2) (by omega))
        · skip
          refine q_lload (n := 63) dX8_heatOf_61 rfl rfl ?_
          refine q_go (t := 69) dX8_heatOf_63 (by decide) ?_
          refine q_laddS (n := 70) dX8_heatOf_69 rfl (by unfold q_i64; omega) ?_
          refine q_lstore_n (n := 71) dX8_heatOf_70 rfl (Nat.le_of_ble_eq_true rfl) (q_s2_s (q_s2_1 rfl)) ?_
          refine q_iinc (n := 74) dX8_heatOf_71 rfl (Nat.le_of_ble_eq_true rfl) rfl (q_nwid ⟨by omega, by omega⟩) (q_s1_s (q_s1_s (q_s1_s (q_s1_1 rfl)))) ?_
          refine q_go (t := 10) dX8_heatOf_74 (by decide) ?_
          rw [htL, ← ht]
          first
            | (rw [if_pos (hti.mpr h58)]
               exact ih (i + 1) _ _ _ (by omega) (by omega) (by rw [hfr 0 16 (by decide)]; exact hm0) (fun j h1 h2 => by rw [hfr 9 j (by omega)]; exact hm j h1 h2) (by omega))
            | (rw [if_neg (fun z => h58 (hti.mp z))]
               exact ih (i + 1) _ _ _ (by omega) (by omega) (by rw [hfr 0 16 (by decide)]; exact hm0) (fun j h1 h2 => by rw [hfr 9 j (by omega)]; exact hm j h1 h2) (by omega))
set_option maxRecDepth 100000 in
theorem zX8_heatOf (v : Int) (σ s : q_S) (hI : IM σ) (hv : 0 ≤ v ∧ v < σ 1 2) (hh : hotB (σ 1 1) (σ 1 2) (pM (σ 1) 2) (pM (σ 1) 3) (pM (σ 1) 6) (pM (σ 1) 7) v = true) : q_Ct mX8_heatOf shM [.inr (.inr 0), .inl v] (ovM σ s) (fun r σ' => ∃ z, r = some z ∧ (z = .inr (.inl (hev (pM (σ 1) 2) (pM (σ 1) 3) (σ 1 1) (pM (σ 1) 4 v) (pM (σ 1) 5 v) (pM (σ 1) 6 v) (pM (σ 1) 7 v) ((σ 1 0)))) ∧ ∃ s', σ' = ovM σ s')) := by
  refine q_ct 5 (by decide) rfl rfl ?_
  show q_WP mX8_heatOf shM 0 [some (.inr (.inr 0)), some (.inl v), none, none, none, none, none] [] (ovM σ s) _
  have hn := hI.nt
  have hvv := hI.nv
  have hvt := hI.tie hv
  have hmc := mem_C hn hvt.2.2
  refine q_aload_n (n := 1) dX8_heatOf_0 rfl rfl ?_
  refine q_iload_n (n := 2) dX8_heatOf_1 rfl rfl ?_
  refine q_v1W (n := 5) dX8_heatOf_2 rfl (zX8_tellsThose v σ _ hI hv) vX8_tellsThose lX8_221 rfl rfl mi0 rfl (fun σ2 h2 => ?_)
  obtain ⟨s1, rfl, ⟨hm0, hm⟩, hfr1⟩ := h2
  · skip
    refine q_lconst (x := 0) (n := 6) dX8_heatOf_5 rfl (k := ?_)
    refine q_lstore_n (n := 7) dX8_heatOf_6 rfl (Nat.le_of_ble_eq_true rfl) (q_s2_s (q_s2_1 rfl)) ?_
    refine q_iconst (n := 8) dX8_heatOf_7 rfl (k := ?_)
    refine q_istore (n := 10) dX8_heatOf_8 rfl (Nat.le_of_ble_eq_true rfl) (q_s1_s (q_s1_s (q_s1_s (q_s1_1 rfl)))) ?_
    exact lpX8_ho σ v hI hv hh (mC (pM (σ 1) 6 v) (pM (σ 1) 7 v) (σ 1 1)).toNat 0 0 _ _ (by omega) (by decide) hm0 hm (by decide)
theorem hevM_bd (σ : q_S) (v F' : Int) (hI : IM σ) (hF : q_bd F' 9) (hh : hotB (σ 1 1) (σ 1 2) (pM (σ 1) 2) (pM (σ 1) 3) (pM (σ 1) 6) (pM (σ 1) 7) v = true) : q_bd (hev (pM (σ 1) 2) (pM (σ 1) 3) (σ 1 1) (pM (σ 1) 4 v) (pM (σ 1) 5 v) (pM (σ 1) 6 v) (pM (σ 1) 7 v) (F')) 120000000 := by
  have hh2 := hotB_t.mp hh
  have hv := hh2.1.1
  have hn := hI.nt
  have hvv := hI.nv
  have hvt := hI.tie hv
  have hmc := mem_C hn hvt.2.2
  have := htL_bd (f := (pM (σ 1) 2)) (a := (pM (σ 1) 6 v)) (kd := (pM (σ 1) 3)) (g := mF (pM (σ 1) 6 v) (pM (σ 1) 7 v) (σ 1 1)) hF hvt.1 hvt.2.1 (mC (pM (σ 1) 6 v) (pM (σ 1) 7 v) (σ 1 1)).toNat 0 0 (fun j h1 h2 => by
    have ht0 := hI.mem hv (j := j) ⟨h1, by omega⟩
    have hkd := hI.kd ht0
    have hkt := tlb_at hh2.2.2 (j := j) ⟨h1, by omega⟩
    exact ⟨⟨hI.pt ht0, balb_at hh2.1.2 ⟨h1, by omega⟩⟩, by omega⟩)
  unfold q_bd hev
  omega
set_option maxRecDepth 100000 in
theorem zX8_massOf (v : Int) (σ s : q_S) (hI : IM σ) (hv : 0 ≤ v ∧ v < σ 1 2) (hh : hotB (σ 1 1) (σ 1 2) (pM (σ 1) 2) (pM (σ 1) 3) (pM (σ 1) 6) (pM (σ 1) 7) v = true) : q_Ct mX8_massOf shM [.inr (.inr 0), .inl v] (ovM σ s) (fun r σ' => ∃ z, r = some z ∧ (z = .inr (.inl (msv (hev (pM (σ 1) 2) (pM (σ 1) 3) (σ 1 1) (pM (σ 1) 4 v) (pM (σ 1) 5 v) (pM (σ 1) 6 v) (pM (σ 1) 7 v) ((σ 1 0))) (stren (lsb (pM (σ 1) 2) (σ 1 0) (σ 1 1) (pM (σ 1) 4 v) (pM (σ 1) 5 v) (pM (σ 1) 6 v) (pM (σ 1) 7 v) (-1)).1 (lsb (pM (σ 1) 2) (σ 1 0) (σ 1 1) (pM (σ 1) 4 v) (pM (σ 1) 5 v) (pM (σ 1) 6 v) (pM (σ 1) 7 v) (-1)).2.1 (lsb (pM (σ 1) 2) (σ 1 0) (σ 1 1) (pM (σ 1) 4 v) (pM (σ 1) 5 v) (pM (σ 1) 6 v) (pM (σ 1) 7 v) (-1)).2.2))) ∧ ∃ s', σ' = ovM σ s')) := by
  refine q_ct 4 (by decide) rfl rfl ?_
  show q_WP mX8_massOf shM 0 [some (.inr (.inr 0)), some (.inl v), none, none, none, none] [] (ovM σ s) _
  have hn := hI.nt
  have hvv := hI.nv
  have hvt := hI.tie hv
  have hmc := mem_C hn hvt.2.2
  have hh2 := hotB_t.mp hh
  have hb := hh2.1.2
  have hj := fun wo => lsb_ok (wo := wo) hn hvt.2.2 hI.fq hvt.1 hvt.2.1 (fun t a b => hI.pt ⟨a, b⟩) hb
  have hj1 := hj (-1)
  have hst := stren_bd (jok_div hj1 hmc.1).1 (jok_div hj1 hmc.1).2
  have hhb := hevM_bd σ v (σ 1 0) hI hI.fq hh
  have hst9 : q_bd (stren (lsb (pM (σ 1) 2) (σ 1 0) (σ 1 1) (pM (σ 1) 4 v) (pM (σ 1) 5 v) (pM (σ 1) 6 v) (pM (σ 1) 7 v) (-1)).1 (lsb (pM (σ 1) 2) (σ 1 0) (σ 1 1) (pM (σ 1) 4 v) (pM (σ 1) 5 v) (pM (σ 1) 6 v) (pM (σ 1) 7 v) (-1)).2.1 (lsb (pM (σ 1) 2) (σ 1 0) (σ 1 1) (pM (σ 1) 4 v) (pM (σ 1) 5 v) (pM (σ 1) 6 v) (pM (σ 1) 7 v) (-1)).2.2) 679477248000000 := ⟨by omega, hst.2⟩
  refine q_aload_n (n := 1) dX8_massOf_0 rfl rfl ?_
  refine q_iload_n (n := 2) dX8_massOf_1 rfl rfl ?_
  refine q_v1 (n := 5) dX8_massOf_2 rfl (zX8_heatOf v σ _ hI hv hh) vX8_heatOf lX8_307 rfl rfl mi0 rfl (fun v2 σ2 h2 => ?_)
  obtain ⟨rfl, s2, rfl⟩ := h2
  · skip
    refine q_lstore_n (n := 6) dX8_massOf_5 rfl (Nat.le_of_ble_eq_true rfl) (q_s2_s (q_s2_1 rfl)) ?_
    refine q_aload_n (n := 7) dX8_massOf_6 rfl rfl ?_
    refine q_iload_n (n := 8) dX8_massOf_7 rfl rfl ?_
    refine q_iconst (n := 9) dX8_massOf_8 rfl (k := ?_)
    refine q_v2W (n := 12) dX8_massOf_9 rfl (zX8_tellsLost v (-1) σ _ hI hv hb) vX8_tellsLost lX8_243 rfl rfl mi0 rfl (fun σ9 h9 => ?_)
    obtain ⟨s9, rfl, hrp⟩ := h9
    have q1 := red_low hrp.1.1 hj1.1.1 hrp.1.2.1 hrp.1.2.2
    have q2 := red_low hrp.2.1 hj1.1.1 hrp.2.2.1 hrp.2.2.2
    have d1 := red_div hrp.1.1 hj1.1.1 hrp.1.2.1 hrp.1.2.2
    have d2 := red_div hrp.2.1 hj1.1.1 hrp.2.2.1 hrp.2.2.2
    have d3 := jok_div hj1 hmc.1
    · skip
      refine q_lload_n (n := 13) dX8_massOf_12 rfl rfl ?_
      refine q_lload_n (n := 14) dX8_massOf_13 rfl rfl ?_
      have b102_ := bd_mul (C := 14400000000000000) hhb hhb (by decide)
      refine q_lmulS (n := 15) dX8_massOf_14 rfl (bd_64 b102_ (by decide)) ?_
      refine q_aload_n (n := 16) dX8_massOf_15 rfl rfl ?_
      refine q_getJE (s9 0 17) (kI := 17) (n := 19) dX8_massOf_16 rfl fX8_227 mi0 rfl rfl rfl ?_
      refine q_aload_n (n := 20) dX8_massOf_19 rfl rfl ?_
      refine q_getJE (s9 0 18) (kI := 18) (n := 23) dX8_massOf_20 rfl fX8_224 mi0 rfl rfl rfl ?_
      refine q_aload_n (n := 24) dX8_massOf_23 rfl rfl ?_
      refine q_getJE (s9 0 19) (kI := 19) (n := 27) dX8_massOf_24 rfl fX8_233 mi0 rfl rfl rfl ?_
      refine q_aload_n (n := 28) dX8_massOf_27 rfl rfl ?_
      refine q_getJE (s9 0 20) (kI := 20) (n := 31) dX8_massOf_28 rfl fX8_230 mi0 rfl rfl rfl ?_
      refine q_c4D (n := 34) dX8_massOf_31 rfl (zX8_strength _ _ _ _ _ _ hrp.1.1 hrp.2.1 (by rw [d1]; exact d3.1) (by rw [d2]; exact d3.2)) vX8_strength lX8_247 rfl rfl ?_
      have b103_ := hst9
      refine q_topJ ((stren (lsb (pM (σ 1) 2) (σ 1 0) (σ 1 1) (pM (σ 1) 4 v) (pM (σ 1) 5 v) (pM (σ 1) 6 v) (pM (σ 1) 7 v) (-1)).1 (lsb (pM (σ 1) 2) (σ 1 0) (σ 1 1) (pM (σ 1) 4 v) (pM (σ 1) 5 v) (pM (σ 1) 6 v) (pM (σ 1) 7 v) (-1)).2.1 (lsb (pM (σ 1) 2) (σ 1 0) (σ 1 1) (pM (σ 1) 4 v) (pM (σ 1) 5 v) (pM (σ 1) 6 v) (pM (σ 1) 7 v) (-1)).2.2)) (by unfold stren; rw [d1, d2]) ?_
      have b104_ := bd_sub (C := 15079477248000000) b102_ b103_ (by decide)
      refine q_lsubS (n := 35) dX8_massOf_34 rfl (bd_64 b104_ (by decide)) ?_
      refine q_lstore (n := 37) dX8_massOf_35 rfl (Nat.le_of_ble_eq_true rfl) (q_s2_s (q_s2_s (q_s2_s (q_s2_1 rfl)))) ?_
      refine q_lload (n := 39) dX8_massOf_37 rfl rfl ?_
      refine q_lconst (x := 0) (n := 40) dX8_massOf_39 rfl (k := ?_)
      refine q_lcmp (n := 41) dX8_massOf_40 rfl ?_
      refine q_if_ge (n := 44) (t := 50) dX8_massOf_41 rfl (by decide) (fun h41 => ?_) (fun h41 => ?_)
      · have h41 := q_kget.mp h41
        have hsq := bd_mul hhb hhb (C := 14400000000000000) (by decide)
        have hqq : 0 ≤ (hev (pM (σ 1) 2) (pM (σ 1) 3) (σ 1 1) (pM (σ 1) 4 v) (pM (σ 1) 5 v) (pM (σ 1) 6 v) (pM (σ 1) 7 v) ((σ 1 0))) * (hev (pM (σ 1) 2) (pM (σ 1) 3) (σ 1 1) (pM (σ 1) 4 v) (pM (σ 1) 5 v) (pM (σ 1) 6 v) (pM (σ 1) 7 v) ((σ 1 0))) - (stren (lsb (pM (σ 1) 2) (σ 1 0) (σ 1 1) (pM (σ 1) 4 v) (pM (σ 1) 5 v) (pM (σ 1) 6 v) (pM (σ 1) 7 v) (-1)).1 (lsb (pM (σ 1) 2) (σ 1 0) (σ 1 1) (pM (σ 1) 4 v) (pM (σ 1) 5 v) (pM (σ 1) 6 v) (pM (σ 1) 7 v) (-1)).2.1 (lsb (pM (σ 1) 2) (σ 1 0) (σ 1 1) (pM (σ 1) 4 v) (pM (σ 1) 5 v) (pM (σ 1) 6 v) (pM (σ 1) 7 v) (-1)).2.2) ∧ (hev (pM (σ 1) 2) (pM (σ 1) 3) (σ 1 1) (pM (σ 1) 4 v) (pM (σ 1) 5 v) (pM (σ 1) 6 v) (pM (σ 1) 7 v) ((σ 1 0))) * (hev (pM (σ 1) 2) (pM (σ 1) 3) (σ 1 1) (pM (σ 1) 4 v) (pM (σ 1) 5 v) (pM (σ 1) 6 v) (pM (σ 1) 7 v) ((σ 1 0))) - (stren (lsb (pM (σ 1) 2) (σ 1 0) (σ 1 1) (pM (σ 1) 4 v) (pM (σ 1) 5 v) (pM (σ 1) 6 v) (pM (σ 1) 7 v) (-1)).1 (lsb (pM (σ 1) 2) (σ 1 0) (σ 1 1) (pM (σ 1) 4 v) (pM (σ 1) 5 v) (pM (σ 1) 6 v) (pM (σ 1) 7 v) (-1)).2.1 (lsb (pM (σ 1) 2) (σ 1 0) (σ 1 1) (pM (σ 1) 4 v) (pM (σ 1) 5 v) (pM (σ 1) 6 v) (pM (σ 1) 7 v) (-1)).2.2) ≤ 4000000000000000000 := ⟨h41, by unfold q_bd at hsq; omega⟩
        refine q_lload (n := 52) dX8_massOf_50 rfl rfl ?_
        refine q_c1D (n := 55) dX8_massOf_52 rfl (zX8_root _ _ _ hqq) vX8_root lX8_299 rfl rfl ?_
        refine q_lret dX8_massOf_55 rfl ?_
        refine ⟨_, rfl, congrArg Sum.inr (congrArg Sum.inl (Eq.symm ?_)), _, rfl⟩
        unfold msv
        first
          | exact if_neg (by omega)
          | exact if_pos h41
      · have h41 := q_kgef.mp h41
        refine q_ldc2 (x := -1) (n := 47) dX8_massOf_44 rfl kX8_159 (k := ?_)
        refine q_go (t := 55) dX8_massOf_47 (by decide) ?_
        refine q_lret dX8_massOf_55 rfl ?_
        refine ⟨_, rfl, congrArg Sum.inr (congrArg Sum.inl (Eq.symm ?_)), _, rfl⟩
        unfold msv
        first
          | exact if_neg (by omega)
          | exact if_pos h41
theorem ab_le {k m : Int} (hk : 0 ≤ k ∧ k < 12) (hm : 0 ≤ m ∧ m ≤ 200000000) : ab (mss k - m) < 9223372036854775807 := by
  have := mss_bd hk
  unfold q_bd at this
  unfold ab
  split <;> omega
/-- best and least, as the reference keeps them -/
def nnM (a : Int × Int) (b l : Int) : Prop := b = a.2 ∧ (b = -1 ∧ a.1 = 9223372036854775807 ∨ 0 ≤ b ∧ l = a.1)
set_option maxRecDepth 100000 in
theorem lpX8_ne (σ s : q_S) (hI : IM σ) (m : Int) (hm : 0 ≤ m ∧ m ≤ 200000000) : ∀ (n : Nat) (i b l : Int) (a : Int × Int) (o7 : Option q_V), (n : Int) + i = 12 → 0 ≤ i → nnM a b l → q_WP mX8_nearest shM 8 [some (.inr (.inr 0)), some (.inr (.inl m)), none, some (.inl b), some (.inr (.inl l)), none, some (.inl i), o7, none] [] (ovM σ s) (fun r σ' => r = some (.inr (.inl (nnL m n i a).2)) ∧ σ' = ovM σ s) := by
  intro n
  induction n with
  | zero =>
    intro i b l a o7 hi h0 hab
    refine q_iload (n := 10) dX8_nearest_8 rfl rfl ?_
    refine q_bipush (n := 12) dX8_nearest_10 rfl (k := ?_)
    refine q_icmp_ge (n := 15) (t := 97) dX8_nearest_12 rfl (by decide) (fun h12 => ?_) (fun h12 => ?_)
    · skip
      refine q_iload_n (n := 98) dX8_nearest_97 rfl rfl ?_
      refine q_i2l (n := 99) dX8_nearest_98 rfl ?_
      refine q_lret dX8_nearest_99 rfl ?_
      exact ⟨by rw [hab.1]; rfl, rfl⟩
    · exact absurd h12 (by omega)
  | succ n ih =>
    intro i b l a o7 hi h0 hab
    have hms := (hI.2.2.1 i h0 (by omega)).2.2.1
    have hmb := mss_bd (k := i) ⟨h0, by omega⟩
    have hmm : q_bd m 200000000 := ⟨by omega, hm.2⟩
    have hal := ab_le (k := i) ⟨h0, by omega⟩ hm
    refine q_iload (n := 10) dX8_nearest_8 rfl rfl ?_
    refine q_bipush (n := 12) dX8_nearest_10 rfl (k := ?_)
    refine q_icmp_ge (n := 15) (t := 97) dX8_nearest_12 rfl (by decide) (fun h12 => ?_) (fun h12 => ?_)
    · exact absurd h12 (by omega)
    · skip
      refine q_lload_n (n := 16) dX8_nearest_15 rfl rfl ?_
      refine q_lconst (x := 0) (n := 17) dX8_nearest_16 rfl (k := ?_)
      refine q_lcmp (n := 18) dX8_nearest_17 rfl ?_
      refine q_if_lt (n := 21) (t := 97) dX8_nearest_18 rfl (by decide) (fun h18 => ?_) (fun h18 => ?_)
      · exact absurd (q_kltt.mp h18) (by omega)
      · have h18 := q_kltf.mp h18
        refine q_aload_n (n := 22) dX8_nearest_21 rfl rfl ?_
        refine q_iload (n := 24) dX8_nearest_22 rfl rfl ?_
        refine q_v1D (n := 27) dX8_nearest_24 rfl (zX8_isNeutral _ σ _ hI) vX8_isNeutral lX8_265 rfl rfl mi0 rfl ?_
        refine q_if_ne (n := 30) (t := 33) dX8_nearest_27 rfl (by decide) (fun h27 => ?_) (fun h27 => ?_)
        · have h27 := q_b1.mp h27
          refine q_lload_n (n := 34) dX8_nearest_33 rfl rfl ?_
          refine q_aload_n (n := 35) dX8_nearest_34 rfl rfl ?_
          refine q_getR (n := 38) dX8_nearest_35 rfl fX8_39 mi0 rfl ?_
          refine q_iload (n := 40) dX8_nearest_38 rfl rfl ?_
          refine q_ialoadF (σ 6) (n := 41) dX8_nearest_40 rfl mi6 ⟨by omega, by omega⟩ rfl ?_
          have b105_ := hmb
          rw [show (σ 6) i = mss i from hms]
          refine q_i2l (n := 42) dX8_nearest_41 rfl ?_
          refine q_lcmp (n := 43) dX8_nearest_42 rfl ?_
          refine q_if_le (n := 46) (t := 59) dX8_nearest_43 rfl (by decide) (fun h43 => ?_) (fun h43 => ?_)
          · have h43 := q_klet.mp h43
            have eab : ab (mss i - m) = mss i - m := if_pos (by omega)
            refine q_aload_n (n := 60) dX8_nearest_59 rfl rfl ?_
            refine q_getR (n := 63) dX8_nearest_60 rfl fX8_39 mi0 rfl ?_
            refine q_iload (n := 65) dX8_nearest_63 rfl rfl ?_
            refine q_ialoadF (σ 6) (n := 66) dX8_nearest_65 rfl mi6 ⟨by omega, by omega⟩ rfl ?_
            have b106_ := hmb
            rw [show (σ 6) i = mss i from hms]
            refine q_i2l (n := 67) dX8_nearest_66 rfl ?_
            refine q_lload_n (n := 68) dX8_nearest_67 rfl rfl ?_
            have b107_ := bd_sub (C := 200000120) b106_ hmm (by decide)
            refine q_lsubS (n := 69) dX8_nearest_68 rfl (bd_64 b107_ (by decide)) ?_
            refine q_lstore (n := 71) dX8_nearest_69 rfl (Nat.le_of_ble_eq_true rfl) (q_s2_s (q_s2_s (q_s2_s (q_s2_s (q_s2_s (q_s2_s (q_s2_1 rfl))))))) ?_
            refine q_iload_n (n := 72) dX8_nearest_71 rfl rfl ?_
            refine q_iconst (n := 73) dX8_nearest_72 rfl (k := ?_)
            refine q_icmp_eq (n := 76) (t := 84) dX8_nearest_73 rfl (by decide) (fun h73 => ?_) (fun h73 => ?_)
            · skip
              refine q_iload (n := 86) dX8_nearest_84 rfl rfl ?_
              refine q_istore_n (n := 87) dX8_nearest_86 rfl (Nat.le_of_ble_eq_true rfl) (q_s1_s (q_s1_s (q_s1_1 rfl))) ?_
              refine q_lload (n := 89) dX8_nearest_87 rfl rfl ?_
              refine q_lstore (n := 91) dX8_nearest_89 rfl (Nat.le_of_ble_eq_true rfl) (q_s2_s (q_s2_s (q_s2_s (q_s2_1 rfl)))) ?_
              refine q_iinc (n := 94) dX8_nearest_91 rfl (Nat.le_of_ble_eq_true rfl) rfl (q_nwid ⟨by omega, by omega⟩) (q_s1_s (q_s1_s (q_s1_s (q_s1_s (q_s1_s (q_s1_1 rfl)))))) ?_
              refine q_go (t := 8) dX8_nearest_94 (by decide) ?_
              rw [nnL]
              first
                | (rw [if_neg (fun z => h27 ⟨⟨h0, by omega⟩, z.1⟩)]
                   exact ih (i + 1) b l a _ (by omega) (by omega) hab)
                | (have hs : num i 0 = 0 ∧ ab (mss i - m) < a.1 := by
                     refine ⟨h27.2, ?_⟩
                     rcases hab with ⟨e1, ⟨e2, e3⟩ | ⟨e2, e3⟩⟩ <;> omega
                   rw [if_pos hs]
                   exact ih (i + 1) i _ (ab (mss i - m), i) _ (by omega) (by omega) ⟨rfl, Or.inr ⟨h0, eab.symm⟩⟩)
                | (have hs : ¬ (num i 0 = 0 ∧ ab (mss i - m) < a.1) := by
                     intro z
                     rcases hab with ⟨e1, ⟨e2, e3⟩ | ⟨e2, e3⟩⟩ <;> omega
                   rw [if_neg hs]
                   exact ih (i + 1) b l a _ (by omega) (by omega) hab)
            · skip
              refine q_lload (n := 78) dX8_nearest_76 rfl rfl ?_
              refine q_lload (n := 80) dX8_nearest_78 rfl rfl ?_
              refine q_lcmp (n := 81) dX8_nearest_80 rfl ?_
              refine q_if_ge (n := 84) (t := 91) dX8_nearest_81 rfl (by decide) (fun h81 => ?_) (fun h81 => ?_)
              · have h81 := q_kget.mp h81
                refine q_iinc (n := 94) dX8_nearest_91 rfl (Nat.le_of_ble_eq_true rfl) rfl (q_nwid ⟨by omega, by omega⟩) (q_s1_s (q_s1_s (q_s1_s (q_s1_s (q_s1_s (q_s1_1 rfl)))))) ?_
                refine q_go (t := 8) dX8_nearest_94 (by decide) ?_
                rw [nnL]
                first
                  | (rw [if_neg (fun z => h27 ⟨⟨h0, by omega⟩, z.1⟩)]
                     exact ih (i + 1) b l a _ (by omega) (by omega) hab)
                  | (have hs : num i 0 = 0 ∧ ab (mss i - m) < a.1 := by
                       refine ⟨h27.2, ?_⟩
                       rcases hab with ⟨e1, ⟨e2, e3⟩ | ⟨e2, e3⟩⟩ <;> omega
                     rw [if_pos hs]
                     exact ih (i + 1) i _ (ab (mss i - m), i) _ (by omega) (by omega) ⟨rfl, Or.inr ⟨h0, eab.symm⟩⟩)
                  | (have hs : ¬ (num i 0 = 0 ∧ ab (mss i - m) < a.1) := by
                       intro z
                       rcases hab with ⟨e1, ⟨e2, e3⟩ | ⟨e2, e3⟩⟩ <;> omega
                     rw [if_neg hs]
                     exact ih (i + 1) b l a _ (by omega) (by omega) hab)
              · have h81 := q_kgef.mp h81
                refine q_iload (n := 86) dX8_nearest_84 rfl rfl ?_
                refine q_istore_n (n := 87) dX8_nearest_86 rfl (Nat.le_of_ble_eq_true rfl) (q_s1_s (q_s1_s (q_s1_1 rfl))) ?_
                refine q_lload (n := 89) dX8_nearest_87 rfl rfl ?_
                refine q_lstore (n := 91) dX8_nearest_89 rfl (Nat.le_of_ble_eq_true rfl) (q_s2_s (q_s2_s (q_s2_s (q_s2_1 rfl)))) ?_
                refine q_iinc (n := 94) dX8_nearest_91 rfl (Nat.le_of_ble_eq_true rfl) rfl (q_nwid ⟨by omega, by omega⟩) (q_s1_s (q_s1_s (q_s1_s (q_s1_s (q_s1_s (q_s1_1 rfl)))))) ?_
                refine q_go (t := 8) dX8_nearest_94 (by decide) ?_
                rw [nnL]
                first
                  | (rw [if_neg (fun z => h27 ⟨⟨h0, by omega⟩, z.1⟩)]
                     exact ih (i + 1) b l a _ (by omega) (by omega) hab)
                  | (have hs : num i 0 = 0 ∧ ab (mss i - m) < a.1 := by
                       refine ⟨h27.2, ?_⟩
                       rcases hab with ⟨e1, ⟨e2, e3⟩ | ⟨e2, e3⟩⟩ <;> omega
                     rw [if_pos hs]
                     exact ih (i + 1) i _ (ab (mss i - m), i) _ (by omega) (by omega) ⟨rfl, Or.inr ⟨h0, eab.symm⟩⟩)
                  | (have hs : ¬ (num i 0 = 0 ∧ ab (mss i - m) < a.1) := by
                       intro z
                       rcases hab with ⟨e1, ⟨e2, e3⟩ | ⟨e2, e3⟩⟩ <;> omega
                     rw [if_neg hs]
                     exact ih (i + 1) b l a _ (by omega) (by omega) hab)
          · have h43 := q_klef.mp h43
            have eab : ab (mss i - m) = m - mss i := by unfold ab; rw [if_neg (by omega)]; omega
            refine q_lload_n (n := 47) dX8_nearest_46 rfl rfl ?_
            refine q_aload_n (n := 48) dX8_nearest_47 rfl rfl ?_
            refine q_getR (n := 51) dX8_nearest_48 rfl fX8_39 mi0 rfl ?_
            refine q_iload (n := 53) dX8_nearest_51 rfl rfl ?_
            refine q_ialoadF (σ 6) (n := 54) dX8_nearest_53 rfl mi6 ⟨by omega, by omega⟩ rfl ?_
            have b108_ := hmb
            rw [show (σ 6) i = mss i from hms]
            refine q_i2l (n := 55) dX8_nearest_54 rfl ?_
            have b109_ := bd_sub (C := 200000120) hmm b108_ (by decide)
            refine q_lsubS (n := 56) dX8_nearest_55 rfl (bd_64 b109_ (by decide)) ?_
            refine q_go (t := 69) dX8_nearest_56 (by decide) ?_
            refine q_lstore (n := 71) dX8_nearest_69 rfl (Nat.le_of_ble_eq_true rfl) (q_s2_s (q_s2_s (q_s2_s (q_s2_s (q_s2_s (q_s2_s (q_s2_1 rfl))))))) ?_
            refine q_iload_n (n := 72) dX8_nearest_71 rfl rfl ?_
            refine q_iconst (n := 73) dX8_nearest_72 rfl (k := ?_)
            refine q_icmp_eq (n := 76) (t := 84) dX8_nearest_73 rfl (by decide) (fun h73 => ?_) (fun h73 => ?_)
            · skip
              refine q_iload (n := 86) dX8_nearest_84 rfl rfl ?_
              refine q_istore_n (n := 87) dX8_nearest_86 rfl (Nat.le_of_ble_eq_true rfl) (q_s1_s (q_s1_s (q_s1_1 rfl))) ?_
              refine q_lload (n := 89) dX8_nearest_87 rfl rfl ?_
              refine q_lstore (n := 91) dX8_nearest_89 rfl (Nat.le_of_ble_eq_true rfl) (q_s2_s (q_s2_s (q_s2_s (q_s2_1 rfl)))) ?_
              refine q_iinc (n := 94) dX8_nearest_91 rfl (Nat.le_of_ble_eq_true rfl) rfl (q_nwid ⟨by omega, by omega⟩) (q_s1_s (q_s1_s (q_s1_s (q_s1_s (q_s1_s (q_s1_1 rfl)))))) ?_
              refine q_go (t := 8) dX8_nearest_94 (by decide) ?_
              rw [nnL]
              first
                | (rw [if_neg (fun z => h27 ⟨⟨h0, by omega⟩, z.1⟩)]
                   exact ih (i + 1) b l a _ (by omega) (by omega) hab)
                | (have hs : num i 0 = 0 ∧ ab (mss i - m) < a.1 := by
                     refine ⟨h27.2, ?_⟩
                     rcases hab with ⟨e1, ⟨e2, e3⟩ | ⟨e2, e3⟩⟩ <;> omega
                   rw [if_pos hs]
                   exact ih (i + 1) i _ (ab (mss i - m), i) _ (by omega) (by omega) ⟨rfl, Or.inr ⟨h0, eab.symm⟩⟩)
                | (have hs : ¬ (num i 0 = 0 ∧ ab (mss i - m) < a.1) := by
                     intro z
                     rcases hab with ⟨e1, ⟨e2, e3⟩ | ⟨e2, e3⟩⟩ <;> omega
                   rw [if_neg hs]
                   exact ih (i + 1) b l a _ (by omega) (by omega) hab)
            · skip
              refine q_lload (n := 78) dX8_nearest_76 rfl rfl ?_
              refine q_lload (n := 80) dX8_nearest_78 rfl rfl ?_
              refine q_lcmp (n := 81) dX8_nearest_80 rfl ?_
              refine q_if_ge (n := 84) (t := 91) dX8_nearest_81 rfl (by decide) (fun h81 => ?_) (fun h81 => ?_)
              · have h81 := q_kget.mp h81
                refine q_iinc (n := 94) dX8_nearest_91 rfl (Nat.le_of_ble_eq_true rfl) rfl (q_nwid ⟨by omega, by omega⟩) (q_s1_s (q_s1_s (q_s1_s (q_s1_s (q_s1_s (q_s1_1 rfl)))))) ?_
                refine q_go (t := 8) dX8_nearest_94 (by decide) ?_
                rw [nnL]
                first
                  | (rw [if_neg (fun z => h27 ⟨⟨h0, by omega⟩, z.1⟩)]
                     exact ih (i + 1) b l a _ (by omega) (by omega) hab)
                  | (have hs : num i 0 = 0 ∧ ab (mss i - m) < a.1 := by
                       refine ⟨h27.2, ?_⟩
                       rcases hab with ⟨e1, ⟨e2, e3⟩ | ⟨e2, e3⟩⟩ <;> omega
                     rw [if_pos hs]
                     exact ih (i + 1) i _ (ab (mss i - m), i) _ (by omega) (by omega) ⟨rfl, Or.inr ⟨h0, eab.symm⟩⟩)
                  | (have hs : ¬ (num i 0 = 0 ∧ ab (mss i - m) < a.1) := by
                       intro z
                       rcases hab with ⟨e1, ⟨e2, e3⟩ | ⟨e2, e3⟩⟩ <;> omega
                     rw [if_neg hs]
                     exact ih (i + 1) b l a _ (by omega) (by omega) hab)
              · have h81 := q_kgef.mp h81
                refine q_iload (n := 86) dX8_nearest_84 rfl rfl ?_
                refine q_istore_n (n := 87) dX8_nearest_86 rfl (Nat.le_of_ble_eq_true rfl) (q_s1_s (q_s1_s (q_s1_1 rfl))) ?_
                refine q_lload (n := 89) dX8_nearest_87 rfl rfl ?_
                refine q_lstore (n := 91) dX8_nearest_89 rfl (Nat.le_of_ble_eq_true rfl) (q_s2_s (q_s2_s (q_s2_s (q_s2_1 rfl)))) ?_
                refine q_iinc (n := 94) dX8_nearest_91 rfl (Nat.le_of_ble_eq_true rfl) rfl (q_nwid ⟨by omega, by omega⟩) (q_s1_s (q_s1_s (q_s1_s (q_s1_s (q_s1_s (q_s1_1 rfl)))))) ?_
                refine q_go (t := 8) dX8_nearest_94 (by decide) ?_
                rw [nnL]
                first
                  | (rw [if_neg (fun z => h27 ⟨⟨h0, by omega⟩, z.1⟩)]
                     exact ih (i + 1) b l a _ (by omega) (by omega) hab)
                  | (have hs : num i 0 = 0 ∧ ab (mss i - m) < a.1 := by
                       refine ⟨h27.2, ?_⟩
                       rcases hab with ⟨e1, ⟨e2, e3⟩ | ⟨e2, e3⟩⟩ <;> omega
                     rw [if_pos hs]
                     exact ih (i + 1) i _ (ab (mss i - m), i) _ (by omega) (by omega) ⟨rfl, Or.inr ⟨h0, eab.symm⟩⟩)
                  | (have hs : ¬ (num i 0 = 0 ∧ ab (mss i - m) < a.1) := by
                       intro z
                       rcases hab with ⟨e1, ⟨e2, e3⟩ | ⟨e2, e3⟩⟩ <;> omega
                     rw [if_neg hs]
                     exact ih (i + 1) b l a _ (by omega) (by omega) hab)
        · have h27 := q_b0.mp h27
          refine q_go (t := 91) dX8_nearest_30 (by decide) ?_
          refine q_iinc (n := 94) dX8_nearest_91 rfl (Nat.le_of_ble_eq_true rfl) rfl (q_nwid ⟨by omega, by omega⟩) (q_s1_s (q_s1_s (q_s1_s (q_s1_s (q_s1_s (q_s1_1 rfl)))))) ?_
          refine q_go (t := 8) dX8_nearest_94 (by decide) ?_
          rw [nnL]
          first
            | (rw [if_neg (fun z => h27 ⟨⟨h0, by omega⟩, z.1⟩)]
               exact ih (i + 1) b l a _ (by omega) (by omega) hab)
            | (have hs : num i 0 = 0 ∧ ab (mss i - m) < a.1 := by
                 refine ⟨h27.2, ?_⟩
                 rcases hab with ⟨e1, ⟨e2, e3⟩ | ⟨e2, e3⟩⟩ <;> omega
               rw [if_pos hs]
               exact ih (i + 1) i _ (ab (mss i - m), i) _ (by omega) (by omega) ⟨rfl, Or.inr ⟨h0, eab.symm⟩⟩)
            | (have hs : ¬ (num i 0 = 0 ∧ ab (mss i - m) < a.1) := by
                 intro z
                 rcases hab with ⟨e1, ⟨e2, e3⟩ | ⟨e2, e3⟩⟩ <;> omega
               rw [if_neg hs]
               exact ih (i + 1) b l a _ (by omega) (by omega) hab)
set_option maxRecDepth 100000 in
theorem zX8_nearest (m : Int) (σ s : q_S) (hI : IM σ) (hm : m = -1 ∨ 0 ≤ m ∧ m ≤ 200000000) : q_Ct mX8_nearest shM [.inr (.inr 0), .inr (.inl m)] (ovM σ s) (fun r σ' => r = some (.inr (.inl (if m < 0 then -1 else nnr m))) ∧ σ' = ovM σ s) := by
  refine q_ct 6 (by decide) rfl rfl ?_
  show q_WP mX8_nearest shM 0 [some (.inr (.inr 0)), some (.inr (.inl m)), none, none, none, none, none, none, none] [] (ovM σ s) _
  refine q_iconst (n := 1) dX8_nearest_0 rfl (k := ?_)
  refine q_istore_n (n := 2) dX8_nearest_1 rfl (Nat.le_of_ble_eq_true rfl) (q_s1_s (q_s1_s (q_s1_1 rfl))) ?_
  refine q_lconst (x := 0) (n := 3) dX8_nearest_2 rfl (k := ?_)
  refine q_lstore (n := 5) dX8_nearest_3 rfl (Nat.le_of_ble_eq_true rfl) (q_s2_s (q_s2_s (q_s2_s (q_s2_1 rfl)))) ?_
  refine q_iconst (n := 6) dX8_nearest_5 rfl (k := ?_)
  refine q_istore (n := 8) dX8_nearest_6 rfl (Nat.le_of_ble_eq_true rfl) (q_s1_s (q_s1_s (q_s1_s (q_s1_s (q_s1_s (q_s1_1 rfl)))))) ?_
  by_cases h0 : m < 0
  · refine q_iload (n := 10) dX8_nearest_8 rfl rfl ?_
    refine q_bipush (n := 12) dX8_nearest_10 rfl (k := ?_)
    refine q_icmp_ge (n := 15) (t := 97) dX8_nearest_12 rfl (by decide) (fun h12 => absurd h12 (by decide)) (fun h12 => ?_)
    refine q_lload_n (n := 16) dX8_nearest_15 rfl rfl ?_
    refine q_lconst (x := 0) (n := 17) dX8_nearest_16 rfl (k := ?_)
    refine q_lcmp (n := 18) dX8_nearest_17 rfl ?_
    refine q_if_lt (n := 21) (t := 97) dX8_nearest_18 rfl (by decide) (fun h18 => ?_) (fun h18 => absurd (q_kltf.mp h18) (by omega))
    refine q_iload_n (n := 98) dX8_nearest_97 rfl rfl ?_
    refine q_i2l (n := 99) dX8_nearest_98 rfl ?_
    refine q_lret dX8_nearest_99 rfl ?_
    rw [if_pos h0]
    exact ⟨rfl, rfl⟩
  · rw [if_neg h0]
    exact lpX8_ne σ s hI m (by omega) 12 0 (-1) 0 (9223372036854775807, -1) none (by decide) (by decide) ⟨rfl, Or.inl ⟨rfl, rfl⟩⟩
theorem msvM (σ : q_S) (v : Int) (hI : IM σ) (hh : hotB (σ 1 1) (σ 1 2) (pM (σ 1) 2) (pM (σ 1) 3) (pM (σ 1) 6) (pM (σ 1) 7) v = true) : msv (hev (pM (σ 1) 2) (pM (σ 1) 3) (σ 1 1) (pM (σ 1) 4 v) (pM (σ 1) 5 v) (pM (σ 1) 6 v) (pM (σ 1) 7 v) ((σ 1 0))) (stren (lsb (pM (σ 1) 2) (σ 1 0) (σ 1 1) (pM (σ 1) 4 v) (pM (σ 1) 5 v) (pM (σ 1) 6 v) (pM (σ 1) 7 v) (-1)).1 (lsb (pM (σ 1) 2) (σ 1 0) (σ 1 1) (pM (σ 1) 4 v) (pM (σ 1) 5 v) (pM (σ 1) 6 v) (pM (σ 1) 7 v) (-1)).2.1 (lsb (pM (σ 1) 2) (σ 1 0) (σ 1 1) (pM (σ 1) 4 v) (pM (σ 1) 5 v) (pM (σ 1) 6 v) (pM (σ 1) 7 v) (-1)).2.2) = -1 ∨ 0 ≤ msv (hev (pM (σ 1) 2) (pM (σ 1) 3) (σ 1 1) (pM (σ 1) 4 v) (pM (σ 1) 5 v) (pM (σ 1) 6 v) (pM (σ 1) 7 v) ((σ 1 0))) (stren (lsb (pM (σ 1) 2) (σ 1 0) (σ 1 1) (pM (σ 1) 4 v) (pM (σ 1) 5 v) (pM (σ 1) 6 v) (pM (σ 1) 7 v) (-1)).1 (lsb (pM (σ 1) 2) (σ 1 0) (σ 1 1) (pM (σ 1) 4 v) (pM (σ 1) 5 v) (pM (σ 1) 6 v) (pM (σ 1) 7 v) (-1)).2.1 (lsb (pM (σ 1) 2) (σ 1 0) (σ 1 1) (pM (σ 1) 4 v) (pM (σ 1) 5 v) (pM (σ 1) 6 v) (pM (σ 1) 7 v) (-1)).2.2) ∧ msv (hev (pM (σ 1) 2) (pM (σ 1) 3) (σ 1 1) (pM (σ 1) 4 v) (pM (σ 1) 5 v) (pM (σ 1) 6 v) (pM (σ 1) 7 v) ((σ 1 0))) (stren (lsb (pM (σ 1) 2) (σ 1 0) (σ 1 1) (pM (σ 1) 4 v) (pM (σ 1) 5 v) (pM (σ 1) 6 v) (pM (σ 1) 7 v) (-1)).1 (lsb (pM (σ 1) 2) (σ 1 0) (σ 1 1) (pM (σ 1) 4 v) (pM (σ 1) 5 v) (pM (σ 1) 6 v) (pM (σ 1) 7 v) (-1)).2.1 (lsb (pM (σ 1) 2) (σ 1 0) (σ 1 1) (pM (σ 1) 4 v) (pM (σ 1) 5 v) (pM (σ 1) 6 v) (pM (σ 1) 7 v) (-1)).2.2) ≤ 200000000 := by
  have hhb := hevM_bd σ v (σ 1 0) hI hI.fq hh
  have hh2 := hotB_t.mp hh
  have hv := hh2.1.1
  have hb := hh2.1.2
  have hn := hI.nt
  have hvv := hI.nv
  have hvt := hI.tie hv
  have hmc := mem_C hn hvt.2.2
  have hj := fun wo => lsb_ok (wo := wo) hn hvt.2.2 hI.fq hvt.1 hvt.2.1 (fun t a b => hI.pt ⟨a, b⟩) hb
  have hj1 := hj (-1)
  have hst := stren_bd (jok_div hj1 hmc.1).1 (jok_div hj1 hmc.1).2
  have hsq := bd_mul hhb hhb (C := 14400000000000000) (by decide)
  unfold msv
  by_cases h : (hev (pM (σ 1) 2) (pM (σ 1) 3) (σ 1 1) (pM (σ 1) 4 v) (pM (σ 1) 5 v) (pM (σ 1) 6 v) (pM (σ 1) 7 v) ((σ 1 0))) * (hev (pM (σ 1) 2) (pM (σ 1) 3) (σ 1 1) (pM (σ 1) 4 v) (pM (σ 1) 5 v) (pM (σ 1) 6 v) (pM (σ 1) 7 v) ((σ 1 0))) - (stren (lsb (pM (σ 1) 2) (σ 1 0) (σ 1 1) (pM (σ 1) 4 v) (pM (σ 1) 5 v) (pM (σ 1) 6 v) (pM (σ 1) 7 v) (-1)).1 (lsb (pM (σ 1) 2) (σ 1 0) (σ 1 1) (pM (σ 1) 4 v) (pM (σ 1) 5 v) (pM (σ 1) 6 v) (pM (σ 1) 7 v) (-1)).2.1 (lsb (pM (σ 1) 2) (σ 1 0) (σ 1 1) (pM (σ 1) 4 v) (pM (σ 1) 5 v) (pM (σ 1) 6 v) (pM (σ 1) 7 v) (-1)).2.2) < 0
  · rw [if_pos h]
    exact Or.inl rfl
  · rw [if_neg h]
    exact Or.inr (rt_bd2 ⟨by omega, by unfold q_bd at hsq; omega⟩)
set_option maxRecDepth 100000 in
theorem zX8_heat (v x : Int) (σ s : q_S) (hI : IM σ) : q_Ct mX8_heat shM [.inr (.inr 0), .inl v, .inl x] (ovM σ s) (fun r σ' => r = some (.inr (.inl (fHeat (σ 1 0) (σ 1 1) (σ 1 2) (pM (σ 1) 2) (pM (σ 1) 3) (pM (σ 1) 4) (pM (σ 1) 5) (pM (σ 1) 6) (pM (σ 1) 7) v x))) ∧ ∃ s', σ' = ovM σ s') := by
  refine q_ct 0 (by decide) rfl rfl ?_
  show q_WP mX8_heat shM 0 [some (.inr (.inr 0)), some (.inl v), some (.inl x)] [] (ovM σ s) _
  have hn := hI.nt
  have hvv := hI.nv
  refine q_aload_n (n := 1) dX8_heat_0 rfl rfl ?_
  refine q_iload_n (n := 2) dX8_heat_1 rfl rfl ?_
  refine q_v1D (n := 5) dX8_heat_2 rfl (zX8_isVertex _ σ _ (by omega)) vX8_isVertex lX8_192 rfl rfl mi0 rfl ?_
  refine q_if_eq (n := 8) (t := 28) dX8_heat_5 rfl (by decide) (fun h5 => ?_) (fun h5 => ?_)
  · have hv := q_b0.mp h5
    refine q_ldc2 (x := -9223372036854775808) (n := 31) dX8_heat_28 rfl kX8_190 (k := ?_)
    refine q_lret dX8_heat_31 rfl ?_
    refine ⟨congrArg some (congrArg Sum.inr (congrArg Sum.inl (Eq.symm ?_))), _, rfl⟩
    unfold fHeat
    first
      | (refine if_neg (fun z => ?_)
         first
           | exact hv (hotB_t.mp z.2).1.1
           | exact hh z.2
           | omega)
      | (rw [if_pos ⟨by omega, hh⟩, if_pos h33]; done)
      | (rw [if_pos ⟨by omega, hh⟩, if_neg h33, if_pos (Or.inl h46)]; done)
      | (rw [if_pos ⟨by omega, hh⟩, if_neg h33]
         rcases hmv with e | e
         · rw [if_pos (Or.inr (by omega)), if_pos (by omega)]
           exact e
         · rw [if_neg (fun z => z.elim h46 (fun z => by omega)), if_neg (by omega)])
  · have hv := q_b1.mp h5
    refine q_iload_n (n := 9) dX8_heat_8 rfl rfl ?_
    refine q_i2l (n := 10) dX8_heat_9 rfl ?_
    refine q_lconst (x := 0) (n := 11) dX8_heat_10 rfl (k := ?_)
    refine q_ldc2 (x := 2) (n := 14) dX8_heat_11 rfl kX8_113 (k := ?_)
    refine q_c3D (n := 17) dX8_heat_14 rfl (zX8_in _ _ _ _ _) vX8_in lX8_13 rfl rfl ?_
    refine q_if_eq (n := 20) (t := 28) dX8_heat_17 rfl (by decide) (fun h17 => ?_) (fun h17 => ?_)
    · have h17 := q_b0.mp h17
      refine q_ldc2 (x := -9223372036854775808) (n := 31) dX8_heat_28 rfl kX8_190 (k := ?_)
      refine q_lret dX8_heat_31 rfl ?_
      refine ⟨congrArg some (congrArg Sum.inr (congrArg Sum.inl (Eq.symm ?_))), _, rfl⟩
      unfold fHeat
      first
        | (refine if_neg (fun z => ?_)
           first
             | exact hv (hotB_t.mp z.2).1.1
             | exact hh z.2
             | omega)
        | (rw [if_pos ⟨by omega, hh⟩, if_pos h33]; done)
        | (rw [if_pos ⟨by omega, hh⟩, if_neg h33, if_pos (Or.inl h46)]; done)
        | (rw [if_pos ⟨by omega, hh⟩, if_neg h33]
           rcases hmv with e | e
           · rw [if_pos (Or.inr (by omega)), if_pos (by omega)]
             exact e
           · rw [if_neg (fun z => z.elim h46 (fun z => by omega)), if_neg (by omega)])
    · have h17 := q_b1.mp h17
      refine q_aload_n (n := 21) dX8_heat_20 rfl rfl ?_
      refine q_iload_n (n := 22) dX8_heat_21 rfl rfl ?_
      refine q_v1 (n := 25) dX8_heat_22 rfl (zX8_isHot v σ _ hI hv) vX8_isHot lX8_310 rfl rfl mi0 rfl (fun v22 σ22 h22 => ?_)
      obtain ⟨rfl, s22, rfl⟩ := h22
      · skip
        refine q_if_ne (n := 28) (t := 32) dX8_heat_25 rfl (by decide) (fun h25 => ?_) (fun h25 => ?_)
        · have hh := q_b1.mp h25
          have hmv := msvM σ v hI hh
          refine q_iload_n (n := 33) dX8_heat_32 rfl rfl ?_
          refine q_if_ne (n := 36) (t := 44) dX8_heat_33 rfl (by decide) (fun h33 => ?_) (fun h33 => ?_)
          · skip
            refine q_iload_n (n := 45) dX8_heat_44 rfl rfl ?_
            refine q_iconst (n := 46) dX8_heat_45 rfl (k := ?_)
            refine q_icmp_ne (n := 49) (t := 57) dX8_heat_46 rfl (by decide) (fun h46 => ?_) (fun h46 => ?_)
            · skip
              refine q_aload_n (n := 58) dX8_heat_57 rfl rfl ?_
              refine q_aload_n (n := 59) dX8_heat_58 rfl rfl ?_
              refine q_iload_n (n := 60) dX8_heat_59 rfl rfl ?_
              refine q_v1 (n := 63) dX8_heat_60 rfl (zX8_massOf v σ _ hI hv hh) vX8_massOf lX8_313 rfl rfl mi0 rfl (fun v60 σ60 h60 => ?_)
              obtain ⟨rfl, s60, rfl⟩ := h60
              · skip
                refine q_v1D (n := 66) dX8_heat_63 rfl (zX8_nearest _ σ _ hI (msvM σ v hI hh)) vX8_nearest lX8_316 rfl rfl mi0 rfl ?_
                refine q_lret dX8_heat_66 rfl ?_
                refine ⟨congrArg some (congrArg Sum.inr (congrArg Sum.inl (Eq.symm ?_))), _, rfl⟩
                unfold fHeat
                first
                  | (refine if_neg (fun z => ?_)
                     first
                       | exact hv (hotB_t.mp z.2).1.1
                       | exact hh z.2
                       | omega)
                  | (rw [if_pos ⟨by omega, hh⟩, if_pos h33]; done)
                  | (rw [if_pos ⟨by omega, hh⟩, if_neg h33, if_pos (Or.inl h46)]; done)
                  | (rw [if_pos ⟨by omega, hh⟩, if_neg h33]
                     rcases hmv with e | e
                     · rw [if_pos (Or.inr (by omega)), if_pos (by omega)]
                       exact e
                     · rw [if_neg (fun z => z.elim h46 (fun z => by omega)), if_neg (by omega)])
            · skip
              refine q_aload_n (n := 50) dX8_heat_49 rfl rfl ?_
              refine q_iload_n (n := 51) dX8_heat_50 rfl rfl ?_
              refine q_v1 (n := 54) dX8_heat_51 rfl (zX8_massOf v σ _ hI hv hh) vX8_massOf lX8_313 rfl rfl mi0 rfl (fun v51 σ51 h51 => ?_)
              obtain ⟨rfl, s51, rfl⟩ := h51
              · skip
                refine q_go (t := 66) dX8_heat_54 (by decide) ?_
                refine q_lret dX8_heat_66 rfl ?_
                refine ⟨congrArg some (congrArg Sum.inr (congrArg Sum.inl (Eq.symm ?_))), _, rfl⟩
                unfold fHeat
                first
                  | (refine if_neg (fun z => ?_)
                     first
                       | exact hv (hotB_t.mp z.2).1.1
                       | exact hh z.2
                       | omega)
                  | (rw [if_pos ⟨by omega, hh⟩, if_pos h33]; done)
                  | (rw [if_pos ⟨by omega, hh⟩, if_neg h33, if_pos (Or.inl h46)]; done)
                  | (rw [if_pos ⟨by omega, hh⟩, if_neg h33]
                     rcases hmv with e | e
                     · rw [if_pos (Or.inr (by omega)), if_pos (by omega)]
                       exact e
                     · rw [if_neg (fun z => z.elim h46 (fun z => by omega)), if_neg (by omega)])
          · skip
            refine q_aload_n (n := 37) dX8_heat_36 rfl rfl ?_
            refine q_iload_n (n := 38) dX8_heat_37 rfl rfl ?_
            refine q_v1 (n := 41) dX8_heat_38 rfl (zX8_heatOf v σ _ hI hv hh) vX8_heatOf lX8_307 rfl rfl mi0 rfl (fun v38 σ38 h38 => ?_)
            obtain ⟨rfl, s38, rfl⟩ := h38
            · skip
              refine q_go (t := 66) dX8_heat_41 (by decide) ?_
              refine q_lret dX8_heat_66 rfl ?_
              refine ⟨congrArg some (congrArg Sum.inr (congrArg Sum.inl (Eq.symm ?_))), _, rfl⟩
              unfold fHeat
              first
                | (refine if_neg (fun z => ?_)
                   first
                     | exact hv (hotB_t.mp z.2).1.1
                     | exact hh z.2
                     | omega)
                | (rw [if_pos ⟨by omega, hh⟩, if_pos h33]; done)
                | (rw [if_pos ⟨by omega, hh⟩, if_neg h33, if_pos (Or.inl h46)]; done)
                | (rw [if_pos ⟨by omega, hh⟩, if_neg h33]
                   rcases hmv with e | e
                   · rw [if_pos (Or.inr (by omega)), if_pos (by omega)]
                     exact e
                   · rw [if_neg (fun z => z.elim h46 (fun z => by omega)), if_neg (by omega)])
        · have hh := q_b0.mp h25
          refine q_ldc2 (x := -9223372036854775808) (n := 31) dX8_heat_28 rfl kX8_190 (k := ?_)
          refine q_lret dX8_heat_31 rfl ?_
          refine ⟨congrArg some (congrArg Sum.inr (congrArg Sum.inl (Eq.symm ?_))), _, rfl⟩
          unfold fHeat
          first
            | (refine if_neg (fun z => ?_)
               first
                 | exact hv (hotB_t.mp z.2).1.1
                 | exact hh z.2
                 | omega)
            | (rw [if_pos ⟨by omega, hh⟩, if_pos h33]; done)
            | (rw [if_pos ⟨by omega, hh⟩, if_neg h33, if_pos (Or.inl h46)]; done)
            | (rw [if_pos ⟨by omega, hh⟩, if_neg h33]
               rcases hmv with e | e
               · rw [if_pos (Or.inr (by omega)), if_pos (by omega)]
                 exact e
               · rw [if_neg (fun z => z.elim h46 (fun z => by omega)), if_neg (by omega)])
