theorem gcd_step {p q : Nat} (h : (q : Int) ≠ 0) : ((p : Int).tmod q) = ((p % q : Nat) : Int) ∧ Nat.gcd q (p % q) = Nat.gcd p q := by
  refine ⟨?_, ?_⟩
  · rw [Int.tmod_eq_emod_of_nonneg (by omega)]
    rfl
  · rw [Nat.gcd_comm p q, Nat.gcd_rec q p, Nat.gcd_comm]
set_option maxRecDepth 100000 in
theorem lpX8_co (sh : q_H) (σ : q_S) (a b : Int) : ∀ (n p q : Nat) (o8 : Option q_V), q ≤ n → q_WP mX8_common sh 17 [some (.inr (.inl a)), none, some (.inr (.inl b)), none, some (.inr (.inl (p : Int))), none, some (.inr (.inl (q : Int))), none, o8, none] [] σ (fun r σ' => r = some (.inr (.inl ((Nat.gcd p q : Nat) : Int))) ∧ σ' = σ) := by
  intro n
  induction n with
  | zero =>
    intro p q o8 hq
    obtain rfl : q = 0 := by omega
    refine q_lload (n := 19) dX8_common_17 rfl rfl ?_
    refine q_lconst (x := 0) (n := 20) dX8_common_19 rfl (k := ?_)
    refine q_lcmp (n := 21) dX8_common_20 rfl ?_
    refine q_if_eq (n := 24) (t := 42) dX8_common_21 rfl (by decide) (fun h21 => ?_) (fun h21 => ?_)
    · have h21 := q_keqt.mp h21
      refine q_lload (n := 44) dX8_common_42 rfl rfl ?_
      refine q_lret dX8_common_44 rfl ?_
      exact ⟨by rw [Nat.gcd_zero_right], rfl⟩
    · exact absurd rfl h21
  | succ n ih =>
    intro p q o8 hq
    refine q_lload (n := 19) dX8_common_17 rfl rfl ?_
    refine q_lconst (x := 0) (n := 20) dX8_common_19 rfl (k := ?_)
    refine q_lcmp (n := 21) dX8_common_20 rfl ?_
    refine q_if_eq (n := 24) (t := 42) dX8_common_21 rfl (by decide) (fun h21 => ?_) (fun h21 => ?_)
    · have h21 := q_keqt.mp h21
      refine q_lload (n := 44) dX8_common_42 rfl rfl ?_
      refine q_lret dX8_common_44 rfl ?_
      obtain rfl : q = 0 := by omega
      exact ⟨by rw [Nat.gcd_zero_right], rfl⟩
    · have h21 := q_keqf.mp h21
      have hs := gcd_step (p := p) h21
      have hlt : p % q < q := Nat.mod_lt _ (by omega)
      refine q_lload (n := 26) dX8_common_24 rfl rfl ?_
      refine q_lload (n := 28) dX8_common_26 rfl rfl ?_
      refine q_lrem (n := 29) dX8_common_28 rfl h21 ?_
      rw [hs.1]
      refine q_lstore (n := 31) dX8_common_29 rfl (Nat.le_of_ble_eq_true rfl) (q_s2_s (q_s2_s (q_s2_s (q_s2_s (q_s2_s (q_s2_s (q_s2_s (q_s2_1 rfl)))))))) ?_
      refine q_lload (n := 33) dX8_common_31 rfl rfl ?_
      refine q_lstore (n := 35) dX8_common_33 rfl (Nat.le_of_ble_eq_true rfl) (q_s2_s (q_s2_s (q_s2_s (q_s2_1 rfl)))) ?_
      refine q_lload (n := 37) dX8_common_35 rfl rfl ?_
      refine q_lstore (n := 39) dX8_common_37 rfl (Nat.le_of_ble_eq_true rfl) (q_s2_s (q_s2_s (q_s2_s (q_s2_s (q_s2_s (q_s2_1 rfl)))))) ?_
      refine q_go (t := 17) dX8_common_39 (by decide) ?_
      rw [← hs.2]
      exact ih q (p % q) _ (by omega)
set_option maxRecDepth 100000 in
theorem zX8_common (sh : q_H) (a b : Int) (σ : q_S) (ha : -9223372036854775808 < a) (hb : 0 ≤ b) : q_Ct mX8_common sh [.inr (.inl a), .inr (.inl b)] σ (fun r σ' => r = some (.inr (.inl (((Int.gcd a b : Nat) : Int)))) ∧ σ' = σ) := by
  refine q_ct 6 (by decide) rfl rfl ?_
  show q_WP mX8_common sh 0 [some (.inr (.inl a)), none, some (.inr (.inl b)), none, none, none, none, none, none, none] [] σ _
  refine q_lload_n (n := 1) dX8_common_0 rfl rfl ?_
  refine q_lconst (x := 0) (n := 2) dX8_common_1 rfl (k := ?_)
  refine q_lcmp (n := 3) dX8_common_2 rfl ?_
  refine q_if_ge (n := 6) (t := 11) dX8_common_3 rfl (by decide) (fun h3 => ?_) (fun h3 => ?_)
  · have h3 := q_kget.mp h3
    refine q_lload_n (n := 12) dX8_common_11 rfl rfl ?_
    refine q_lstore (n := 14) dX8_common_12 rfl (Nat.le_of_ble_eq_true rfl) (q_s2_s (q_s2_s (q_s2_s (q_s2_1 rfl)))) ?_
    refine q_lload_n (n := 15) dX8_common_14 rfl rfl ?_
    refine q_lstore (n := 17) dX8_common_15 rfl (Nat.le_of_ble_eq_true rfl) (q_s2_s (q_s2_s (q_s2_s (q_s2_s (q_s2_s (q_s2_1 rfl)))))) ?_
    have e2 : b = ((b.natAbs : Nat) : Int) := by omega
    first
      | (have e1 : -a = ((a.natAbs : Nat) : Int) := by omega
         have h := lpX8_co sh σ a b b.natAbs a.natAbs b.natAbs none (Nat.le_refl _)
         rw [← e1, ← e2] at h
         exact h)
      | (have e1 : a = ((a.natAbs : Nat) : Int) := by omega
         have h := lpX8_co sh σ a b b.natAbs a.natAbs b.natAbs none (Nat.le_refl _)
         rw [← e2] at h
         refine q_cut _ _ σ ?_ rfl rfl h
         rw [← e1])
  · have h3 := q_kgef.mp h3
    refine q_lload_n (n := 7) dX8_common_6 rfl rfl ?_
    refine q_lnegS (n := 8) dX8_common_7 rfl ⟨by omega, by omega⟩ ?_
    refine q_go (t := 12) dX8_common_8 (by decide) ?_
    refine q_lstore (n := 14) dX8_common_12 rfl (Nat.le_of_ble_eq_true rfl) (q_s2_s (q_s2_s (q_s2_s (q_s2_1 rfl)))) ?_
    refine q_lload_n (n := 15) dX8_common_14 rfl rfl ?_
    refine q_lstore (n := 17) dX8_common_15 rfl (Nat.le_of_ble_eq_true rfl) (q_s2_s (q_s2_s (q_s2_s (q_s2_s (q_s2_s (q_s2_1 rfl)))))) ?_
    have e2 : b = ((b.natAbs : Nat) : Int) := by omega
    first
      | (have e1 : -a = ((a.natAbs : Nat) : Int) := by omega
         have h := lpX8_co sh σ a b b.natAbs a.natAbs b.natAbs none (Nat.le_refl _)
         rw [← e1, ← e2] at h
         exact h)
      | (have e1 : a = ((a.natAbs : Nat) : Int) := by omega
         have h := lpX8_co sh σ a b b.natAbs a.natAbs b.natAbs none (Nat.le_refl _)
         rw [← e2] at h
         refine q_cut _ _ σ ?_ rfl rfl h
         rw [← e1])
set_option maxRecDepth 100000 in
theorem zX8_lowest (sh : q_H) (a b k : Int) (σ : q_S) (ha : -9223372036854775808 < a ∧ a < 9223372036854775808) (hb : 1 ≤ b ∧ b < 9223372036854775808) : q_Ct mX8_lowest sh [.inr (.inl a), .inr (.inl b), .inl k] σ (fun r σ' => r = some (.inr (.inl (lowG a b k))) ∧ σ' = σ) := by
  refine q_ct 2 (by decide) rfl rfl ?_
  show q_WP mX8_lowest sh 0 [some (.inr (.inl a)), none, some (.inr (.inl b)), none, some (.inl k), none, none] [] σ _
  have hg0 : 0 < Int.gcd a b := Int.gcd_pos_of_ne_zero_right _ (by omega)
  have t1 := q_tdiv_lt (x := a) (y := ((Int.gcd a b : Nat) : Int)) (M := 9223372036854775807) (by omega) (by omega)
  have t2 := q_tdiv_lt (x := b) (y := ((Int.gcd a b : Nat) : Int)) (M := 9223372036854775807) (by omega) (by omega)
  refine q_lload_n (n := 1) dX8_lowest_0 rfl rfl ?_
  refine q_lload_n (n := 2) dX8_lowest_1 rfl rfl ?_
  refine q_c2D (n := 5) dX8_lowest_2 rfl (zX8_common _ _ _ _ ha.1 (by omega)) vX8_common lX8_135 rfl rfl ?_
  refine q_lstore (n := 7) dX8_lowest_5 rfl (Nat.le_of_ble_eq_true rfl) (q_s2_s (q_s2_s (q_s2_s (q_s2_s (q_s2_1 rfl))))) ?_
  refine q_iload (n := 9) dX8_lowest_7 rfl rfl ?_
  refine q_if_ne (n := 12) (t := 19) dX8_lowest_9 rfl (by decide) (fun h9 => ?_) (fun h9 => ?_)
  · skip
    refine q_lload_n (n := 20) dX8_lowest_19 rfl rfl ?_
    refine q_lload (n := 22) dX8_lowest_20 rfl rfl ?_
    refine q_ldiv (n := 23) dX8_lowest_22 rfl (by omega) ?_
    refine q_lret dX8_lowest_23 rfl ?_
    unfold lowG
    first
      | (rw [if_pos (by assumption), q_W_id ⟨by omega, by omega⟩]; exact ⟨rfl, rfl⟩)
      | (rw [if_neg (by assumption), q_W_id ⟨by omega, by omega⟩]; exact ⟨rfl, rfl⟩)
  · skip
    refine q_lload_n (n := 13) dX8_lowest_12 rfl rfl ?_
    refine q_lload (n := 15) dX8_lowest_13 rfl rfl ?_
    refine q_ldiv (n := 16) dX8_lowest_15 rfl (by omega) ?_
    refine q_go (t := 23) dX8_lowest_16 (by decide) ?_
    refine q_lret dX8_lowest_23 rfl ?_
    unfold lowG
    first
      | (rw [if_pos (by assumption), q_W_id ⟨by omega, by omega⟩]; exact ⟨rfl, rfl⟩)
      | (rw [if_neg (by assumption), q_W_id ⟨by omega, by omega⟩]; exact ⟨rfl, rfl⟩)
set_option maxRecDepth 100000 in
theorem zX8_bend (t : Int) (σ s : q_S) (hI : IM σ) : q_Ct mX8_bend shM [.inr (.inr 0), .inl t] (ovM σ s) (fun r σ' => r = some (.inr (.inl (fBend (σ 1 1) (pM (σ 1) 2) t))) ∧ ∃ s', σ' = ovM σ s') := by
  refine q_ct 0 (by decide) rfl rfl ?_
  show q_WP mX8_bend shM 0 [some (.inr (.inr 0)), some (.inl t)] [] (ovM σ s) _
  have hn := hI.nt
  have hvv := hI.nv
  refine q_aload_n (n := 1) dX8_bend_0 rfl rfl ?_
  refine q_iload_n (n := 2) dX8_bend_1 rfl rfl ?_
  refine q_v1D (n := 5) dX8_bend_2 rfl (zX8_isTrack _ σ _ hn) vX8_isTrack lX8_156 rfl rfl mi0 rfl ?_
  refine q_if_eq (n := 8) (t := 16) dX8_bend_5 rfl (by decide) (fun h5 => ?_) (fun h5 => ?_)
  · have h5 := q_b0.mp h5
    refine q_ldc2 (x := -9223372036854775808) (n := 19) dX8_bend_16 rfl kX8_190 (k := ?_)
    refine q_lret dX8_bend_19 rfl ?_
    refine ⟨congrArg some (congrArg Sum.inr (congrArg Sum.inl (Eq.symm ?_))), _, rfl⟩
    unfold fBend
    first
      | exact if_pos h5
      | exact if_neg h5
  · have h5 := q_b1.mp h5
    have hg := hI.pt h5
    refine q_aload_n (n := 9) dX8_bend_8 rfl rfl ?_
    refine q_iload_n (n := 10) dX8_bend_9 rfl rfl ?_
    refine q_v1D (n := 13) dX8_bend_10 rfl (zX8_bendOf _ σ _ hI (by omega)) vX8_bendOf lX8_105 rfl rfl mi0 rfl ?_
    refine q_go (t := 19) dX8_bend_13 (by decide) ?_
    refine q_lret dX8_bend_19 rfl ?_
    refine ⟨congrArg some (congrArg Sum.inr (congrArg Sum.inl (Eq.symm ?_))), _, rfl⟩
    unfold fBend
    first
      | exact if_pos h5
      | exact if_neg h5
set_option maxRecDepth 100000 in
theorem zX8_trackOf (t x : Int) (σ s : q_S) (hI : IM σ) : q_Ct mX8_trackOf shM [.inr (.inr 0), .inl t, .inl x] (ovM σ s) (fun r σ' => r = some (.inl (fTrackOf (σ 1 1) (pM (σ 1) 2) (pM (σ 1) 3) t x)) ∧ ∃ s', σ' = ovM σ s') := by
  refine q_ct 0 (by decide) rfl rfl ?_
  show q_WP mX8_trackOf shM 0 [some (.inr (.inr 0)), some (.inl t), some (.inl x)] [] (ovM σ s) _
  have hn := hI.nt
  have hvv := hI.nv
  refine q_aload_n (n := 1) dX8_trackOf_0 rfl rfl ?_
  refine q_iload_n (n := 2) dX8_trackOf_1 rfl rfl ?_
  refine q_v1D (n := 5) dX8_trackOf_2 rfl (zX8_isTrack _ σ _ hn) vX8_isTrack lX8_156 rfl rfl mi0 rfl ?_
  refine q_if_eq (n := 8) (t := 20) dX8_trackOf_5 rfl (by decide) (fun h5 => ?_) (fun h5 => ?_)
  · have h5 := q_b0.mp h5
    refine q_iconst (n := 21) dX8_trackOf_20 rfl (k := ?_)
    refine q_iret dX8_trackOf_21 rfl (fun _ => rfl) ?_
    refine ⟨congrArg some (congrArg Sum.inl (Eq.symm ?_)), _, rfl⟩
    unfold fTrackOf
    first
      | exact if_pos (by omega)
      | (rw [if_neg (by omega), if_neg (by omega), if_neg (by omega)]; done)
      | (rw [if_neg (by omega), if_pos (by omega)]; done)
      | (rw [if_neg (by omega), if_neg (by omega), if_pos (by omega)]
         show (if σ 1 (51 + t) = -1 then 12 else σ 1 (51 + t)) = _
         first
           | exact if_pos (by omega)
           | exact if_neg (by omega))
  · have h5 := q_b1.mp h5
    have hkr := hI.2.1 t h5.1 h5.2
    have hsg := sgn_bd (lB (pM (σ 1) 2) (6 * t))
    unfold q_bd at hsg
    refine q_iload_n (n := 9) dX8_trackOf_8 rfl rfl ?_
    refine q_i2l (n := 10) dX8_trackOf_9 rfl ?_
    refine q_lconst (x := 0) (n := 11) dX8_trackOf_10 rfl (k := ?_)
    refine q_ldc2 (x := 7) (n := 14) dX8_trackOf_11 rfl kX8_188 (k := ?_)
    refine q_c3D (n := 17) dX8_trackOf_14 rfl (zX8_in _ _ _ _ _) vX8_in lX8_13 rfl rfl ?_
    refine q_if_ne (n := 20) (t := 22) dX8_trackOf_17 rfl (by decide) (fun h17 => ?_) (fun h17 => ?_)
    · have h17 := q_b1.mp h17
      refine q_iload_n (n := 23) dX8_trackOf_22 rfl rfl ?_
      refine q_bipush (n := 25) dX8_trackOf_23 rfl (k := ?_)
      refine q_icmp_ge (n := 28) (t := 35) dX8_trackOf_25 rfl (by decide) (fun h25 => ?_) (fun h25 => ?_)
      · skip
        refine q_iload_n (n := 36) dX8_trackOf_35 rfl rfl ?_
        refine q_bipush (n := 38) dX8_trackOf_36 rfl (k := ?_)
        refine q_icmp_ne (n := 41) (t := 51) dX8_trackOf_38 rfl (by decide) (fun h38 => ?_) (fun h38 => ?_)
        · skip
          refine q_aload_n (n := 52) dX8_trackOf_51 rfl rfl ?_
          refine q_iload_n (n := 53) dX8_trackOf_52 rfl rfl ?_
          refine q_v1D (n := 56) dX8_trackOf_53 rfl (zX8_kindOf _ σ _ (by omega)) vX8_kindOf lX8_164 rfl rfl mi0 rfl ?_
          refine q_if_ge (n := 59) (t := 64) dX8_trackOf_56 rfl (by decide) (fun h56 => ?_) (fun h56 => ?_)
          · skip
            refine q_aload_n (n := 65) dX8_trackOf_64 rfl rfl ?_
            refine q_iload_n (n := 66) dX8_trackOf_65 rfl rfl ?_
            refine q_v1D (n := 69) dX8_trackOf_66 rfl (zX8_kindOf _ σ _ (by omega)) vX8_kindOf lX8_164 rfl rfl mi0 rfl ?_
            refine q_iret dX8_trackOf_69 rfl (fun _ => rfl) ?_
            refine ⟨congrArg some (congrArg Sum.inl (Eq.symm ?_)), _, rfl⟩
            unfold fTrackOf
            first
              | exact if_pos (by omega)
              | (rw [if_neg (by omega), if_neg (by omega), if_neg (by omega)]; done)
              | (rw [if_neg (by omega), if_pos (by omega)]; done)
              | (rw [if_neg (by omega), if_neg (by omega), if_pos (by omega)]
                 show (if σ 1 (51 + t) = -1 then 12 else σ 1 (51 + t)) = _
                 first
                   | exact if_pos (by omega)
                   | exact if_neg (by omega))
          · skip
            refine q_bipush (n := 61) dX8_trackOf_59 rfl (k := ?_)
            refine q_go (t := 69) dX8_trackOf_61 (by decide) ?_
            refine q_iret dX8_trackOf_69 rfl (fun _ => rfl) ?_
            refine ⟨congrArg some (congrArg Sum.inl (Eq.symm ?_)), _, rfl⟩
            unfold fTrackOf
            first
              | exact if_pos (by omega)
              | (rw [if_neg (by omega), if_neg (by omega), if_neg (by omega)]; done)
              | (rw [if_neg (by omega), if_pos (by omega)]; done)
              | (rw [if_neg (by omega), if_neg (by omega), if_pos (by omega)]
                 show (if σ 1 (51 + t) = -1 then 12 else σ 1 (51 + t)) = _
                 first
                   | exact if_pos (by omega)
                   | exact if_neg (by omega))
        · skip
          refine q_aload_n (n := 42) dX8_trackOf_41 rfl rfl ?_
          refine q_iload_n (n := 43) dX8_trackOf_42 rfl rfl ?_
          refine q_v1D (n := 46) dX8_trackOf_43 rfl (zX8_turnOf _ σ _ hI (by omega)) vX8_turnOf lX8_109 rfl rfl mi0 rfl ?_
          refine q_iconst (n := 47) dX8_trackOf_46 rfl (k := ?_)
          have b59_ := bd_add (C := 2) (sgn_bd (lB (pM (σ 1) 2) (6 * t))) (bd_c 1 (1) (by decide)) (by decide)
          refine q_iaddS (n := 48) dX8_trackOf_47 rfl (bd_32 b59_ (by decide)) ?_
          refine q_go (t := 69) dX8_trackOf_48 (by decide) ?_
          refine q_iret dX8_trackOf_69 rfl (fun _ => rfl) ?_
          refine ⟨congrArg some (congrArg Sum.inl (Eq.symm ?_)), _, rfl⟩
          unfold fTrackOf
          first
            | exact if_pos (by omega)
            | (rw [if_neg (by omega), if_neg (by omega), if_neg (by omega)]; done)
            | (rw [if_neg (by omega), if_pos (by omega)]; done)
            | (rw [if_neg (by omega), if_neg (by omega), if_pos (by omega)]
               show (if σ 1 (51 + t) = -1 then 12 else σ 1 (51 + t)) = _
               first
                 | exact if_pos (by omega)
                 | exact if_neg (by omega))
      · skip
        refine q_aload_n (n := 29) dX8_trackOf_28 rfl rfl ?_
        refine q_iload_n (n := 30) dX8_trackOf_29 rfl rfl ?_
        refine q_iload_n (n := 31) dX8_trackOf_30 rfl rfl ?_
        refine q_v2D (n := 34) dX8_trackOf_31 rfl (zX8_at _ _ σ _ (by omega) (by omega)) vX8_at lX8_101 rfl rfl mi0 rfl ?_
        refine q_iret dX8_trackOf_34 rfl (fun _ => rfl) ?_
        refine ⟨congrArg some (congrArg Sum.inl (Eq.symm ?_)), _, rfl⟩
        unfold fTrackOf
        first
          | exact if_pos (by omega)
          | (rw [if_neg (by omega), if_neg (by omega), if_neg (by omega)]; done)
          | (rw [if_neg (by omega), if_pos (by omega)]; done)
          | (rw [if_neg (by omega), if_neg (by omega), if_pos (by omega)]
             show (if σ 1 (51 + t) = -1 then 12 else σ 1 (51 + t)) = _
             first
               | exact if_pos (by omega)
               | exact if_neg (by omega))
    · have h17 := q_b0.mp h17
      refine q_iconst (n := 21) dX8_trackOf_20 rfl (k := ?_)
      refine q_iret dX8_trackOf_21 rfl (fun _ => rfl) ?_
      refine ⟨congrArg some (congrArg Sum.inl (Eq.symm ?_)), _, rfl⟩
      unfold fTrackOf
      first
        | exact if_pos (by omega)
        | (rw [if_neg (by omega), if_neg (by omega), if_neg (by omega)]; done)
        | (rw [if_neg (by omega), if_pos (by omega)]; done)
        | (rw [if_neg (by omega), if_neg (by omega), if_pos (by omega)]
           show (if σ 1 (51 + t) = -1 then 12 else σ 1 (51 + t)) = _
           first
             | exact if_pos (by omega)
             | exact if_neg (by omega))
set_option maxRecDepth 100000 in
theorem zX8_vertexOf (v x : Int) (σ s : q_S) (hI : IM σ) : q_Ct mX8_vertexOf shM [.inr (.inr 0), .inl v, .inl x] (ovM σ s) (fun r σ' => r = some (.inl (fVertexOf (σ 1 2) (pM (σ 1) 4) (pM (σ 1) 5) (pM (σ 1) 6) (pM (σ 1) 7) v x)) ∧ ∃ s', σ' = ovM σ s') := by
  refine q_ct 1 (by decide) rfl rfl ?_
  show q_WP mX8_vertexOf shM 0 [some (.inr (.inr 0)), some (.inl v), some (.inl x), none] [] (ovM σ s) _
  have hn := hI.nt
  have hvv := hI.nv
  refine q_aload_n (n := 1) dX8_vertexOf_0 rfl rfl ?_
  refine q_iload_n (n := 2) dX8_vertexOf_1 rfl rfl ?_
  refine q_v1D (n := 5) dX8_vertexOf_2 rfl (zX8_isVertex _ σ _ (by omega)) vX8_isVertex lX8_192 rfl rfl mi0 rfl ?_
  refine q_if_eq (n := 8) (t := 20) dX8_vertexOf_5 rfl (by decide) (fun h5 => ?_) (fun h5 => ?_)
  · have h5 := q_b0.mp h5
    refine q_iconst (n := 21) dX8_vertexOf_20 rfl (k := ?_)
    refine q_iret dX8_vertexOf_21 rfl (fun _ => rfl) ?_
    refine ⟨congrArg some (congrArg Sum.inl (Eq.symm ?_)), _, rfl⟩
    unfold fVertexOf
    first
      | exact if_pos h5
      | (rw [if_neg (fun z => z h5)]
         first
           | (rw [if_neg (by omega), if_neg (by omega), if_neg (by omega), if_neg (by omega)]; done)
           | (rcases hx4 with rfl | rfl | rfl | rfl
              all_goals first
                | omega
                | (simp only [if_pos, if_neg, reduceIte]; rfl)
                | rfl
                | (show (if σ 1 (59 + 4 * v + 2) = -1 then (8 : Int) else σ 1 (59 + 4 * v + 2)) = _
                   first
                     | exact if_pos (by omega)
                     | exact if_neg (by omega))))
  · have h5 := q_b1.mp h5
    obtain ⟨t1, t2, t3⟩ := hI.tie h5
    have t4 := t3.1
    unfold q_bd at t1 t2
    have t1 : -20 ≤ σ 1 (59 + 4 * v + 0) ∧ σ 1 (59 + 4 * v + 0) ≤ 20 := t1
    have t2 : -20 ≤ σ 1 (59 + 4 * v + 1) ∧ σ 1 (59 + 4 * v + 1) ≤ 20 := t2
    have t4 : σ 1 (59 + 4 * v + 2) = -1 ∨ 0 ≤ σ 1 (59 + 4 * v + 2) ∧ _ := t4
    refine q_iload_n (n := 9) dX8_vertexOf_8 rfl rfl ?_
    refine q_i2l (n := 10) dX8_vertexOf_9 rfl ?_
    refine q_lconst (x := 0) (n := 11) dX8_vertexOf_10 rfl (k := ?_)
    refine q_ldc2 (x := 3) (n := 14) dX8_vertexOf_11 rfl kX8_195 (k := ?_)
    refine q_c3D (n := 17) dX8_vertexOf_14 rfl (zX8_in _ _ _ _ _) vX8_in lX8_13 rfl rfl ?_
    refine q_if_ne (n := 20) (t := 22) dX8_vertexOf_17 rfl (by decide) (fun h17 => ?_) (fun h17 => ?_)
    · have h17 := q_b1.mp h17
      have hx4 : x = 0 ∨ x = 1 ∨ x = 2 ∨ x = 3 := by omega
      refine q_aload_n (n := 23) dX8_vertexOf_22 rfl rfl ?_
      refine q_iload_n (n := 24) dX8_vertexOf_23 rfl rfl ?_
      refine q_iload_n (n := 25) dX8_vertexOf_24 rfl rfl ?_
      refine q_v2D (n := 28) dX8_vertexOf_25 rfl (zX8_vertexAt _ _ σ _ (by omega) (by omega)) vX8_vertexAt lX8_185 rfl rfl mi0 rfl ?_
      have hx9 : True := trivial
      refine q_istore_n (n := 29) dX8_vertexOf_28 rfl (Nat.le_of_ble_eq_true rfl) (q_s1_s (q_s1_s (q_s1_1 rfl))) ?_
      refine q_iload_n (n := 30) dX8_vertexOf_29 rfl rfl ?_
      refine q_iconst (n := 31) dX8_vertexOf_30 rfl (k := ?_)
      refine q_icmp_ge (n := 34) (t := 41) dX8_vertexOf_31 rfl (by decide) (fun h31 => ?_) (fun h31 => ?_)
      · skip
        refine q_iload_n (n := 42) dX8_vertexOf_41 rfl rfl ?_
        refine q_iconst (n := 43) dX8_vertexOf_42 rfl (k := ?_)
        refine q_icmp_ne (n := 46) (t := 55) dX8_vertexOf_43 rfl (by decide) (fun h43 => ?_) (fun h43 => ?_)
        · skip
          refine q_iload_n (n := 56) dX8_vertexOf_55 rfl rfl ?_
          refine q_iret dX8_vertexOf_56 rfl (fun _ => rfl) ?_
          refine ⟨congrArg some (congrArg Sum.inl (Eq.symm ?_)), _, rfl⟩
          unfold fVertexOf
          first
            | exact if_pos h5
            | (rw [if_neg (fun z => z h5)]
               first
                 | (rw [if_neg (by omega), if_neg (by omega), if_neg (by omega), if_neg (by omega)]; done)
                 | (rcases hx4 with rfl | rfl | rfl | rfl
                    all_goals first
                      | omega
                      | (simp only [if_pos, if_neg, reduceIte]; rfl)
                      | rfl
                      | (show (if σ 1 (59 + 4 * v + 2) = -1 then (8 : Int) else σ 1 (59 + 4 * v + 2)) = _
                         first
                           | exact if_pos (by omega)
                           | exact if_neg (by omega))))
        · skip
          refine q_iload_n (n := 47) dX8_vertexOf_46 rfl rfl ?_
          refine q_if_ge (n := 50) (t := 55) dX8_vertexOf_47 rfl (by decide) (fun h47 => ?_) (fun h47 => ?_)
          · skip
            refine q_iload_n (n := 56) dX8_vertexOf_55 rfl rfl ?_
            refine q_iret dX8_vertexOf_56 rfl (fun _ => rfl) ?_
            refine ⟨congrArg some (congrArg Sum.inl (Eq.symm ?_)), _, rfl⟩
            unfold fVertexOf
            first
              | exact if_pos h5
              | (rw [if_neg (fun z => z h5)]
                 first
                   | (rw [if_neg (by omega), if_neg (by omega), if_neg (by omega), if_neg (by omega)]; done)
                   | (rcases hx4 with rfl | rfl | rfl | rfl
                      all_goals first
                        | omega
                        | (simp only [if_pos, if_neg, reduceIte]; rfl)
                        | rfl
                        | (show (if σ 1 (59 + 4 * v + 2) = -1 then (8 : Int) else σ 1 (59 + 4 * v + 2)) = _
                           first
                             | exact if_pos (by omega)
                             | exact if_neg (by omega))))
          · skip
            refine q_bipush (n := 52) dX8_vertexOf_50 rfl (k := ?_)
            refine q_go (t := 56) dX8_vertexOf_52 (by decide) ?_
            refine q_iret dX8_vertexOf_56 rfl (fun _ => rfl) ?_
            refine ⟨congrArg some (congrArg Sum.inl (Eq.symm ?_)), _, rfl⟩
            unfold fVertexOf
            first
              | exact if_pos h5
              | (rw [if_neg (fun z => z h5)]
                 first
                   | (rw [if_neg (by omega), if_neg (by omega), if_neg (by omega), if_neg (by omega)]; done)
                   | (rcases hx4 with rfl | rfl | rfl | rfl
                      all_goals first
                        | omega
                        | (simp only [if_pos, if_neg, reduceIte]; rfl)
                        | rfl
                        | (show (if σ 1 (59 + 4 * v + 2) = -1 then (8 : Int) else σ 1 (59 + 4 * v + 2)) = _
                           first
                             | exact if_pos (by omega)
                             | exact if_neg (by omega))))
      · skip
        refine q_iload_n (n := 35) dX8_vertexOf_34 rfl rfl ?_
        refine q_bipush (n := 37) dX8_vertexOf_35 rfl (k := ?_)
        refine q_iaddS (n := 38) dX8_vertexOf_37 rfl (by rcases hx4 with rfl | rfl | rfl | rfl <;> constructor <;> omega) ?_
        refine q_go (t := 56) dX8_vertexOf_38 (by decide) ?_
        refine q_iret dX8_vertexOf_56 rfl (fun _ => rfl) ?_
        refine ⟨congrArg some (congrArg Sum.inl (Eq.symm ?_)), _, rfl⟩
        unfold fVertexOf
        first
          | exact if_pos h5
          | (rw [if_neg (fun z => z h5)]
             first
               | (rw [if_neg (by omega), if_neg (by omega), if_neg (by omega), if_neg (by omega)]; done)
               | (rcases hx4 with rfl | rfl | rfl | rfl
                  all_goals first
                    | omega
                    | (simp only [if_pos, if_neg, reduceIte]; rfl)
                    | rfl
                    | (show (if σ 1 (59 + 4 * v + 2) = -1 then (8 : Int) else σ 1 (59 + 4 * v + 2)) = _
                       first
                         | exact if_pos (by omega)
                         | exact if_neg (by omega))))
    · have h17 := q_b0.mp h17
      refine q_iconst (n := 21) dX8_vertexOf_20 rfl (k := ?_)
      refine q_iret dX8_vertexOf_21 rfl (fun _ => rfl) ?_
      refine ⟨congrArg some (congrArg Sum.inl (Eq.symm ?_)), _, rfl⟩
      unfold fVertexOf
      first
        | exact if_pos h5
        | (rw [if_neg (fun z => z h5)]
           first
             | (rw [if_neg (by omega), if_neg (by omega), if_neg (by omega), if_neg (by omega)]; done)
             | (rcases hx4 with rfl | rfl | rfl | rfl
                all_goals first
                  | omega
                  | (simp only [if_pos, if_neg, reduceIte]; rfl)
                  | rfl
                  | (show (if σ 1 (59 + 4 * v + 2) = -1 then (8 : Int) else σ 1 (59 + 4 * v + 2)) = _
                     first
                       | exact if_pos (by omega)
                       | exact if_neg (by omega))))
set_option maxRecDepth 100000 in
theorem lpX8_tm (σ s : q_S) (hI : IM σ) (hn : 0 ≤ σ 1 1 ∧ σ 1 1 ≤ 8) : ∀ (n : Nat) (i k : Int), (n : Int) + i = σ 1 1 → 0 ≤ i → 0 ≤ k → k ≤ i → q_WP mX8_toldMany shM 4 [some (.inr (.inr 0)), some (.inl k), some (.inl i)] [] (ovM σ s) (fun r σ' => r = some (.inl (tld (pM (σ 1) 3) n i k)) ∧ σ' = ovM σ s) := by
  intro n
  induction n with
  | zero =>
    intro i k hi h0 hk0 hk
    refine q_iload_n (n := 5) dX8_toldMany_4 rfl rfl ?_
    refine q_aload_n (n := 6) dX8_toldMany_5 rfl rfl ?_
    refine q_getR (n := 9) dX8_toldMany_6 rfl fX8_23 mi0 rfl ?_
    refine q_iconst (n := 10) dX8_toldMany_9 rfl (k := ?_)
    refine q_ialoadF (σ 1) (n := 11) dX8_toldMany_10 rfl mi1 ⟨by omega, by omega⟩ rfl ?_
    refine q_icmp_ge (n := 14) (t := 36) dX8_toldMany_11 rfl (by decide) (fun h11 => ?_) (fun h11 => ?_)
    · skip
      refine q_iload_n (n := 37) dX8_toldMany_36 rfl rfl ?_
      refine q_iret dX8_toldMany_37 rfl (fun _ => rfl) ?_
      exact ⟨rfl, rfl⟩
    · exact absurd h11 (by omega)
  | succ n ih =>
    intro i k hi h0 hk0 hk
    have hkr := hI.2.1 i h0 (by omega)
    have e3 : pM (σ 1) 3 i = if σ 1 (51 + i) = -1 then 12 else σ 1 (51 + i) := rfl
    refine q_iload_n (n := 5) dX8_toldMany_4 rfl rfl ?_
    refine q_aload_n (n := 6) dX8_toldMany_5 rfl rfl ?_
    refine q_getR (n := 9) dX8_toldMany_6 rfl fX8_23 mi0 rfl ?_
    refine q_iconst (n := 10) dX8_toldMany_9 rfl (k := ?_)
    refine q_ialoadF (σ 1) (n := 11) dX8_toldMany_10 rfl mi1 ⟨by omega, by omega⟩ rfl ?_
    refine q_icmp_ge (n := 14) (t := 36) dX8_toldMany_11 rfl (by decide) (fun h11 => ?_) (fun h11 => ?_)
    · exact absurd h11 (by omega)
    · skip
      refine q_iload_n (n := 15) dX8_toldMany_14 rfl rfl ?_
      refine q_aload_n (n := 16) dX8_toldMany_15 rfl rfl ?_
      refine q_iload_n (n := 17) dX8_toldMany_16 rfl rfl ?_
      refine q_v1D (n := 20) dX8_toldMany_17 rfl (zX8_kindOf _ σ _ (by omega)) vX8_kindOf lX8_164 rfl rfl mi0 rfl ?_
      refine q_if_lt (n := 23) (t := 27) dX8_toldMany_20 rfl (by decide) (fun h20 => ?_) (fun h20 => ?_)
      · skip
        refine q_iconst (n := 28) dX8_toldMany_27 rfl (k := ?_)
        refine q_iaddS (n := 29) dX8_toldMany_28 rfl ⟨by omega, by omega⟩ ?_
        refine q_istore_n (n := 30) dX8_toldMany_29 rfl (Nat.le_of_ble_eq_true rfl) (q_s1_1 rfl) ?_
        refine q_iinc (n := 33) dX8_toldMany_30 rfl (Nat.le_of_ble_eq_true rfl) rfl (q_nwid ⟨by omega, by omega⟩) (q_s1_s (q_s1_1 rfl)) ?_
        refine q_go (t := 4) dX8_toldMany_33 (by decide) ?_
        rw [tld]
        first
          | (have e : ¬ pM (σ 1) 3 i = 12 := by rw [e3, if_neg (by omega)]; omega
             rw [if_neg e]
             exact ih _ _ (by omega) (by omega) (by omega) (by omega))
          | (have e : pM (σ 1) 3 i = 12 := by rw [e3, if_pos (by omega)]
             rw [if_pos e]
             have h := ih (i + 1) (k + 0) (by omega) (by omega) (by omega) (by omega)
             rw [Int.add_zero] at h ⊢
             exact h)
      · skip
        refine q_iconst (n := 24) dX8_toldMany_23 rfl (k := ?_)
        refine q_go (t := 28) dX8_toldMany_24 (by decide) ?_
        refine q_iaddS (n := 29) dX8_toldMany_28 rfl ⟨by omega, by omega⟩ ?_
        refine q_istore_n (n := 30) dX8_toldMany_29 rfl (Nat.le_of_ble_eq_true rfl) (q_s1_1 rfl) ?_
        refine q_iinc (n := 33) dX8_toldMany_30 rfl (Nat.le_of_ble_eq_true rfl) rfl (q_nwid ⟨by omega, by omega⟩) (q_s1_s (q_s1_1 rfl)) ?_
        refine q_go (t := 4) dX8_toldMany_33 (by decide) ?_
        rw [tld]
        first
          | (have e : ¬ pM (σ 1) 3 i = 12 := by rw [e3, if_neg (by omega)]; omega
             rw [if_neg e]
             exact ih _ _ (by omega) (by omega) (by omega) (by omega))
          | (have e : pM (σ 1) 3 i = 12 := by rw [e3, if_pos (by omega)]
             rw [if_pos e]
             have h := ih (i + 1) (k + 0) (by omega) (by omega) (by omega) (by omega)
             rw [Int.add_zero] at h ⊢
             exact h)
set_option maxRecDepth 100000 in
theorem zX8_toldMany (σ s : q_S) (hI : IM σ) : q_Ct mX8_toldMany shM [.inr (.inr 0)] (ovM σ s) (fun r σ' => r = some (.inl (tld (pM (σ 1) 3) (σ 1 1).toNat 0 0)) ∧ σ' = ovM σ s) := by
  refine q_ct 2 (by decide) rfl rfl ?_
  show q_WP mX8_toldMany shM 0 [some (.inr (.inr 0)), none, none] [] (ovM σ s) _
  have hn := hI.nt
  refine q_iconst (n := 1) dX8_toldMany_0 rfl (k := ?_)
  refine q_istore_n (n := 2) dX8_toldMany_1 rfl (Nat.le_of_ble_eq_true rfl) (q_s1_1 rfl) ?_
  refine q_iconst (n := 3) dX8_toldMany_2 rfl (k := ?_)
  refine q_istore_n (n := 4) dX8_toldMany_3 rfl (Nat.le_of_ble_eq_true rfl) (q_s1_s (q_s1_1 rfl)) ?_
  exact lpX8_tm σ s hI hn (σ 1 1).toNat 0 0 (by omega) (by omega) (by omega) (by omega)
set_option maxRecDepth 100000 in
theorem zX8_count (x : Int) (σ s : q_S) (hI : IM σ) : q_Ct mX8_count shM [.inr (.inr 0), .inl x] (ovM σ s) (fun r σ' => r = some (.inl (fCount (σ 1 0) (σ 1 1) (σ 1 2) (pM (σ 1) 3) (σ 0 9) (σ 0 28) (σ 0 34) x)) ∧ ∃ s', σ' = ovM σ s') := by
  refine q_ct 0 (by decide) rfl rfl ?_
  show q_WP mX8_count shM 0 [some (.inr (.inr 0)), some (.inl x)] [] (ovM σ s) _
  have hn := hI.nt
  have hvv := hI.nv
  refine q_iload_n (n := 1) dX8_count_0 rfl rfl ?_
  rcases (by omega : (x < 0 ∨ 6 < x) ∨ x = 0 ∨ x = 1 ∨ x = 2 ∨ x = 3 ∨ x = 4 ∨ x = 5 ∨ x = 6) with h1 | h1 | h1 | h1 | h1 | h1 | h1 | h1
  · refine q_tableOut (t := 85) dX8_count_1 h1 (by decide) ?_
    refine q_iconst (n := 86) dX8_count_85 rfl (k := ?_)
    refine q_iret dX8_count_86 rfl (fun _ => rfl) ?_
    refine ⟨congrArg some ((congrArg Sum.inl (Eq.symm ?_))), _, rfl⟩
    unfold fCount
    repeat (first | rw [if_pos (by first | assumption | omega)] | rw [if_neg (by first | assumption | omega)])
    try (first | rfl | omega)
  · refine q_topI 0 h1 ?_
    refine q_tableIn (t := 44) dX8_count_1 (by decide) (by decide) rfl (by decide) ?_
    refine q_aload_n (n := 45) dX8_count_44 rfl rfl ?_
    refine q_getR (n := 48) dX8_count_45 rfl fX8_23 mi0 rfl ?_
    refine q_iconst (n := 49) dX8_count_48 rfl (k := ?_)
    refine q_ialoadF (σ 1) (n := 50) dX8_count_49 rfl mi1 ⟨by omega, by omega⟩ rfl ?_
    refine q_iret dX8_count_50 rfl (fun _ => rfl) ?_
    refine ⟨congrArg some ((congrArg Sum.inl (Eq.symm ?_))), _, rfl⟩
    unfold fCount
    repeat (first | rw [if_pos (by first | assumption | omega)] | rw [if_neg (by first | assumption | omega)])
    try (first | rfl | omega)
  · refine q_topI 1 h1 ?_
    refine q_tableIn (t := 51) dX8_count_1 (by decide) (by decide) rfl (by decide) ?_
    refine q_aload_n (n := 52) dX8_count_51 rfl rfl ?_
    refine q_getR (n := 55) dX8_count_52 rfl fX8_23 mi0 rfl ?_
    refine q_iconst (n := 56) dX8_count_55 rfl (k := ?_)
    refine q_ialoadF (σ 1) (n := 57) dX8_count_56 rfl mi1 ⟨by omega, by omega⟩ rfl ?_
    refine q_iret dX8_count_57 rfl (fun _ => rfl) ?_
    refine ⟨congrArg some ((congrArg Sum.inl (Eq.symm ?_))), _, rfl⟩
    unfold fCount
    repeat (first | rw [if_pos (by first | assumption | omega)] | rw [if_neg (by first | assumption | omega)])
    try (first | rfl | omega)
  · refine q_topI 2 h1 ?_
    refine q_tableIn (t := 58) dX8_count_1 (by decide) (by decide) rfl (by decide) ?_
    refine q_aload_n (n := 59) dX8_count_58 rfl rfl ?_
    refine q_getR (n := 62) dX8_count_59 rfl fX8_23 mi0 rfl ?_
    refine q_iconst (n := 63) dX8_count_62 rfl (k := ?_)
    refine q_ialoadF (σ 1) (n := 64) dX8_count_63 rfl mi1 ⟨by omega, by omega⟩ rfl ?_
    refine q_iret dX8_count_64 rfl (fun _ => rfl) ?_
    refine ⟨congrArg some ((congrArg Sum.inl (Eq.symm ?_))), _, rfl⟩
    unfold fCount
    repeat (first | rw [if_pos (by first | assumption | omega)] | rw [if_neg (by first | assumption | omega)])
    try (first | rfl | omega)
  · refine q_topI 3 h1 ?_
    refine q_tableIn (t := 65) dX8_count_1 (by decide) (by decide) rfl (by decide) ?_
    refine q_aload_n (n := 66) dX8_count_65 rfl rfl ?_
    refine q_v0D (n := 69) dX8_count_66 rfl (zX8_toldMany σ _ hI) vX8_toldMany lX8_197 rfl rfl mi0 rfl ?_
    refine q_iret dX8_count_69 rfl (fun _ => rfl) ?_
    refine ⟨congrArg some ((congrArg Sum.inl (Eq.symm ?_))), _, rfl⟩
    unfold fCount
    repeat (first | rw [if_pos (by first | assumption | omega)] | rw [if_neg (by first | assumption | omega)])
    try (first | rfl | omega)
  · refine q_topI 4 h1 ?_
    refine q_tableIn (t := 70) dX8_count_1 (by decide) (by decide) rfl (by decide) ?_
    refine q_aload_n (n := 71) dX8_count_70 rfl rfl ?_
    refine q_getIF (σ 0) (kI := 9) (n := 74) (by decide) dX8_count_71 rfl fX8_94 mi0 rfl rfl rfl ?_
    refine q_iret dX8_count_74 rfl (fun _ => rfl) ?_
    refine ⟨congrArg some ((congrArg Sum.inl (Eq.symm ?_))), _, rfl⟩
    unfold fCount
    repeat (first | rw [if_pos (by first | assumption | omega)] | rw [if_neg (by first | assumption | omega)])
    try (first | rfl | omega)
  · refine q_topI 5 h1 ?_
    refine q_tableIn (t := 75) dX8_count_1 (by decide) (by decide) rfl (by decide) ?_
    refine q_aload_n (n := 76) dX8_count_75 rfl rfl ?_
    refine q_getIF (σ 0) (kI := 28) (n := 79) (by decide) dX8_count_76 rfl fX8_201 mi0 rfl rfl rfl ?_
    refine q_iret dX8_count_79 rfl (fun _ => rfl) ?_
    refine ⟨congrArg some ((congrArg Sum.inl (Eq.symm ?_))), _, rfl⟩
    unfold fCount
    repeat (first | rw [if_pos (by first | assumption | omega)] | rw [if_neg (by first | assumption | omega)])
    try (first | rfl | omega)
  · refine q_topI 6 h1 ?_
    refine q_tableIn (t := 80) dX8_count_1 (by decide) (by decide) rfl (by decide) ?_
    refine q_aload_n (n := 81) dX8_count_80 rfl rfl ?_
    refine q_getIF (σ 0) (kI := 34) (n := 84) (by decide) dX8_count_81 rfl fX8_204 mi0 rfl rfl rfl ?_
    refine q_iret dX8_count_84 rfl (fun _ => rfl) ?_
    refine ⟨congrArg some ((congrArg Sum.inl (Eq.symm ?_))), _, rfl⟩
    unfold fCount
    repeat (first | rw [if_pos (by first | assumption | omega)] | rw [if_neg (by first | assumption | omega)])
    try (first | rfl | omega)
theorem cen_x {f : Int → Int} {t : Int} : f (6 * t) * un f t + sgn (lB f (6 * t)) * mXd f (6 * t) = lA f (6 * t) * sgn (lB f (6 * t)) := by
  rw [lA_m, ← un_m]
  grind
theorem cen_y {f : Int → Int} {t : Int} : f (6 * t + 1) * un f t + sgn (lB f (6 * t)) * mYd f (6 * t) = lU f (6 * t) * sgn (lB f (6 * t)) := by
  rw [lU_m, ← un_m]
  grind
theorem sg_nz {x : Int} (h : sgn x = 0) : x = 0 := by
  unfold sgn at h
  split at h
  · omega
  · split at h <;> omega
theorem sg_z {x : Int} (h : sgn x ≠ 0) : x ≠ 0 := fun z => h (by rw [z]; rfl)
theorem zX8_at' (t a : Int) (σ s : q_S) (ht : 0 ≤ t ∧ t < 8) (ha : a = 0 ∨ a = 1) : q_Ct mX8_at shM [.inr (.inr 0), .inl t, .inl a] (ovM σ s) (fun r σ' => ∃ z, r = some z ∧ ((a = 0 ∧ z = .inl (pM (σ 1) 2 (6 * t)) ∧ σ' = ovM σ s) ∨ (a ≠ 0 ∧ z = .inl (pM (σ 1) 2 (6 * t + 1)) ∧ σ' = ovM σ s))) := by
  rcases ha with rfl | rfl
  · exact (zX8_at0 t σ s ht).imp (fun r σ' h => ⟨_, h.1, Or.inl ⟨rfl, rfl, h.2⟩⟩)
  · exact (zX8_at t 1 σ s ht (by decide)).imp (fun r σ' h => ⟨_, h.1, Or.inr ⟨by decide, rfl, h.2⟩⟩)
set_option maxRecDepth 100000 in
theorem zX8_centre (t a k : Int) (σ s : q_S) (hI : IM σ) : q_Ct mX8_centre shM [.inr (.inr 0), .inl t, .inl a, .inl k] (ovM σ s) (fun r σ' => r = some (.inr (.inl (fCentre (σ 1 1) (pM (σ 1) 2) t a k))) ∧ ∃ s', σ' = ovM σ s') := by
  refine q_ct 0 (by decide) rfl rfl ?_
  show q_WP mX8_centre shM 0 [some (.inr (.inr 0)), some (.inl t), some (.inl a), some (.inl k)] [] (ovM σ s) _
  have hn := hI.nt
  have hvv := hI.nv
  refine q_aload_n (n := 1) dX8_centre_0 rfl rfl ?_
  refine q_iload_n (n := 2) dX8_centre_1 rfl rfl ?_
  refine q_v1D (n := 5) dX8_centre_2 rfl (zX8_isTrack _ σ _ hn) vX8_isTrack lX8_156 rfl rfl mi0 rfl ?_
  refine q_if_eq (n := 8) (t := 36) dX8_centre_5 rfl (by decide) (fun h5 => ?_) (fun h5 => ?_)
  · have h5 := q_b0.mp h5
    refine q_ldc2 (x := -9223372036854775808) (n := 39) dX8_centre_36 rfl kX8_190 (k := ?_)
    refine q_lret dX8_centre_39 rfl ?_
    refine ⟨congrArg some (congrArg Sum.inr (congrArg Sum.inl (Eq.symm ?_))), _, rfl⟩
    unfold fCentre
    first
      | exact absurd ha h58
      | exact absurd h58 ha
      | exact if_pos (by omega)
      | (rw [if_neg (by omega), if_pos ha, cen_x]; rfl)
      | (rw [if_neg (by omega), if_neg ha, cen_y]; rfl)
  · have h5 := q_b1.mp h5
    have hg := hI.pt h5
    refine q_iload_n (n := 9) dX8_centre_8 rfl rfl ?_
    refine q_i2l (n := 10) dX8_centre_9 rfl ?_
    refine q_lconst (x := 0) (n := 11) dX8_centre_10 rfl (k := ?_)
    refine q_lconst (x := 1) (n := 12) dX8_centre_11 rfl (k := ?_)
    refine q_c3D (n := 15) dX8_centre_12 rfl (zX8_in _ _ _ _ _) vX8_in lX8_13 rfl rfl ?_
    refine q_if_eq (n := 18) (t := 36) dX8_centre_15 rfl (by decide) (fun h15 => ?_) (fun h15 => ?_)
    · have h15 := q_b0.mp h15
      refine q_ldc2 (x := -9223372036854775808) (n := 39) dX8_centre_36 rfl kX8_190 (k := ?_)
      refine q_lret dX8_centre_39 rfl ?_
      refine ⟨congrArg some (congrArg Sum.inr (congrArg Sum.inl (Eq.symm ?_))), _, rfl⟩
      unfold fCentre
      first
        | exact absurd ha h58
        | exact absurd h58 ha
        | exact if_pos (by omega)
        | (rw [if_neg (by omega), if_pos ha, cen_x]; rfl)
        | (rw [if_neg (by omega), if_neg ha, cen_y]; rfl)
    · have h15 := q_b1.mp h15
      refine q_iload_n (n := 19) dX8_centre_18 rfl rfl ?_
      refine q_i2l (n := 20) dX8_centre_19 rfl ?_
      refine q_lconst (x := 0) (n := 21) dX8_centre_20 rfl (k := ?_)
      refine q_lconst (x := 1) (n := 22) dX8_centre_21 rfl (k := ?_)
      refine q_c3D (n := 25) dX8_centre_22 rfl (zX8_in _ _ _ _ _) vX8_in lX8_13 rfl rfl ?_
      refine q_if_eq (n := 28) (t := 36) dX8_centre_25 rfl (by decide) (fun h25 => ?_) (fun h25 => ?_)
      · have h25 := q_b0.mp h25
        refine q_ldc2 (x := -9223372036854775808) (n := 39) dX8_centre_36 rfl kX8_190 (k := ?_)
        refine q_lret dX8_centre_39 rfl ?_
        refine ⟨congrArg some (congrArg Sum.inr (congrArg Sum.inl (Eq.symm ?_))), _, rfl⟩
        unfold fCentre
        first
          | exact absurd ha h58
          | exact absurd h58 ha
          | exact if_pos (by omega)
          | (rw [if_neg (by omega), if_pos ha, cen_x]; rfl)
          | (rw [if_neg (by omega), if_neg ha, cen_y]; rfl)
      · have h25 := q_b1.mp h25
        refine q_aload_n (n := 29) dX8_centre_28 rfl rfl ?_
        refine q_iload_n (n := 30) dX8_centre_29 rfl rfl ?_
        refine q_v1D (n := 33) dX8_centre_30 rfl (zX8_turnOf _ σ _ hI (by omega)) vX8_turnOf lX8_109 rfl rfl mi0 rfl ?_
        refine q_if_ne (n := 36) (t := 40) dX8_centre_33 rfl (by decide) (fun h33 => ?_) (fun h33 => ?_)
        · have hB := sg_z h33
          have hub := un_bd hg hB
          refine q_aload_n (n := 41) dX8_centre_40 rfl rfl ?_
          refine q_iload_n (n := 42) dX8_centre_41 rfl rfl ?_
          refine q_v1W (n := 45) dX8_centre_42 rfl (zX8_tellsMiddle t σ _ hI h5) vX8_tellsMiddle lX8_125 rfl rfl mi0 rfl (fun σ42 h42 => ?_)
          obtain ⟨s2, rfl, hmid, hfr⟩ := h42
          · skip
            refine q_aload_n (n := 46) dX8_centre_45 rfl rfl ?_
            refine q_iload_n (n := 47) dX8_centre_46 rfl rfl ?_
            refine q_iload_n (n := 48) dX8_centre_47 rfl rfl ?_
            refine q_v2 (n := 51) dX8_centre_48 rfl (zX8_at' t a σ _ (by omega) (by omega)) vX8_at lX8_101 rfl rfl mi0 rfl (fun v48 σ48 h48 => ?_)
            rcases h48 with ⟨ha, rfl, rfl⟩ | ⟨ha, rfl, rfl⟩
            · skip
              refine q_i2l (n := 52) dX8_centre_51 rfl ?_
              refine q_aload_n (n := 53) dX8_centre_52 rfl rfl ?_
              refine q_getJE (un (pM (σ 1) 2) t) (kI := 12) (n := 56) dX8_centre_53 rfl fX8_115 mi0 rfl rfl hmid.1 ?_
              have b60_ := un_bd0 hg
              have b61_ := bd_mul (C := 128000) hg.1 b60_ (by decide)
              refine q_lmulS (n := 57) dX8_centre_56 rfl (bd_64 b61_ (by decide)) ?_
              refine q_iload_n (n := 58) dX8_centre_57 rfl rfl ?_
              refine q_if_ne (n := 61) (t := 68) dX8_centre_58 rfl (by decide) (fun h58 => ?_) (fun h58 => ?_)
              · skip
                refine q_aload_n (n := 69) dX8_centre_68 rfl rfl ?_
                refine q_getJE (sgn (lB (pM (σ 1) 2) (6 * t)) * mYd (pM (σ 1) 2) (6 * t)) (kI := 11) (n := 72) dX8_centre_69 rfl fX8_122 mi0 rfl rfl hmid.2.2 ?_
                have b62_ := (bd_mul (sgn_bd (lB (pM (σ 1) 2) (6 * t))) (mYd_bd hg) (C := 256000) (by decide))
                have b63_ := bd_add (C := 384000) b61_ b62_ (by decide)
                refine q_laddS (n := 73) dX8_centre_72 rfl (bd_64 b63_ (by decide)) ?_
                refine q_aload_n (n := 74) dX8_centre_73 rfl rfl ?_
                refine q_getJE (un (pM (σ 1) 2) t) (kI := 12) (n := 77) dX8_centre_74 rfl fX8_115 mi0 rfl rfl hmid.1 ?_
                refine q_iload_n (n := 78) dX8_centre_77 rfl rfl ?_
                refine q_c3D (n := 81) dX8_centre_78 rfl (zX8_lowest _ _ _ _ _ (by have z := bd_mul (lA_bd hg) (sgn_bd (lB (pM (σ 1) 2) (6 * t))) (C := 384000) (by decide); have z2 := bd_mul (lU_bd hg) (sgn_bd (lB (pM (σ 1) 2) (6 * t))) (C := 384000) (by decide); unfold q_bd at z z2; first | exact absurd ha h58 | exact absurd h58 ha | (rw [cen_x]; omega) | (rw [cen_y]; omega)) ⟨by omega, by omega⟩) vX8_lowest lX8_207 rfl rfl ?_
                refine q_lret dX8_centre_81 rfl ?_
                refine ⟨congrArg some (congrArg Sum.inr (congrArg Sum.inl (Eq.symm ?_))), _, rfl⟩
                unfold fCentre
                first
                  | exact absurd ha h58
                  | exact absurd h58 ha
                  | exact if_pos (by omega)
                  | (rw [if_neg (by omega), if_pos ha, cen_x]; rfl)
                  | (rw [if_neg (by omega), if_neg ha, cen_y]; rfl)
              · skip
                refine q_aload_n (n := 62) dX8_centre_61 rfl rfl ?_
                refine q_getJE (sgn (lB (pM (σ 1) 2) (6 * t)) * mXd (pM (σ 1) 2) (6 * t)) (kI := 10) (n := 65) dX8_centre_62 rfl fX8_119 mi0 rfl rfl hmid.2.1 ?_
                have b64_ := (bd_mul (sgn_bd (lB (pM (σ 1) 2) (6 * t))) (mXd_bd hg) (C := 256000) (by decide))
                refine q_go (t := 72) dX8_centre_65 (by decide) ?_
                have b65_ := bd_add (C := 384000) b61_ b64_ (by decide)
                refine q_laddS (n := 73) dX8_centre_72 rfl (bd_64 b65_ (by decide)) ?_
                refine q_aload_n (n := 74) dX8_centre_73 rfl rfl ?_
                refine q_getJE (un (pM (σ 1) 2) t) (kI := 12) (n := 77) dX8_centre_74 rfl fX8_115 mi0 rfl rfl hmid.1 ?_
                refine q_iload_n (n := 78) dX8_centre_77 rfl rfl ?_
                refine q_c3D (n := 81) dX8_centre_78 rfl (zX8_lowest _ _ _ _ _ (by have z := bd_mul (lA_bd hg) (sgn_bd (lB (pM (σ 1) 2) (6 * t))) (C := 384000) (by decide); have z2 := bd_mul (lU_bd hg) (sgn_bd (lB (pM (σ 1) 2) (6 * t))) (C := 384000) (by decide); unfold q_bd at z z2; first | exact absurd ha h58 | exact absurd h58 ha | (rw [cen_x]; omega) | (rw [cen_y]; omega)) ⟨by omega, by omega⟩) vX8_lowest lX8_207 rfl rfl ?_
                refine q_lret dX8_centre_81 rfl ?_
                refine ⟨congrArg some (congrArg Sum.inr (congrArg Sum.inl (Eq.symm ?_))), _, rfl⟩
                unfold fCentre
                first
                  | exact absurd ha h58
                  | exact absurd h58 ha
                  | exact if_pos (by omega)
                  | (rw [if_neg (by omega), if_pos ha, cen_x]; rfl)
                  | (rw [if_neg (by omega), if_neg ha, cen_y]; rfl)
            · skip
              refine q_i2l (n := 52) dX8_centre_51 rfl ?_
              refine q_aload_n (n := 53) dX8_centre_52 rfl rfl ?_
              refine q_getJE (un (pM (σ 1) 2) t) (kI := 12) (n := 56) dX8_centre_53 rfl fX8_115 mi0 rfl rfl hmid.1 ?_
              have b66_ := un_bd0 hg
              have b67_ := bd_mul (C := 128000) hg.2.1 b66_ (by decide)
              refine q_lmulS (n := 57) dX8_centre_56 rfl (bd_64 b67_ (by decide)) ?_
              refine q_iload_n (n := 58) dX8_centre_57 rfl rfl ?_
              refine q_if_ne (n := 61) (t := 68) dX8_centre_58 rfl (by decide) (fun h58 => ?_) (fun h58 => ?_)
              · skip
                refine q_aload_n (n := 69) dX8_centre_68 rfl rfl ?_
                refine q_getJE (sgn (lB (pM (σ 1) 2) (6 * t)) * mYd (pM (σ 1) 2) (6 * t)) (kI := 11) (n := 72) dX8_centre_69 rfl fX8_122 mi0 rfl rfl hmid.2.2 ?_
                have b68_ := (bd_mul (sgn_bd (lB (pM (σ 1) 2) (6 * t))) (mYd_bd hg) (C := 256000) (by decide))
                have b69_ := bd_add (C := 384000) b67_ b68_ (by decide)
                refine q_laddS (n := 73) dX8_centre_72 rfl (bd_64 b69_ (by decide)) ?_
                refine q_aload_n (n := 74) dX8_centre_73 rfl rfl ?_
                refine q_getJE (un (pM (σ 1) 2) t) (kI := 12) (n := 77) dX8_centre_74 rfl fX8_115 mi0 rfl rfl hmid.1 ?_
                refine q_iload_n (n := 78) dX8_centre_77 rfl rfl ?_
                refine q_c3D (n := 81) dX8_centre_78 rfl (zX8_lowest _ _ _ _ _ (by have z := bd_mul (lA_bd hg) (sgn_bd (lB (pM (σ 1) 2) (6 * t))) (C := 384000) (by decide); have z2 := bd_mul (lU_bd hg) (sgn_bd (lB (pM (σ 1) 2) (6 * t))) (C := 384000) (by decide); unfold q_bd at z z2; first | exact absurd ha h58 | exact absurd h58 ha | (rw [cen_x]; omega) | (rw [cen_y]; omega)) ⟨by omega, by omega⟩) vX8_lowest lX8_207 rfl rfl ?_
                refine q_lret dX8_centre_81 rfl ?_
                refine ⟨congrArg some (congrArg Sum.inr (congrArg Sum.inl (Eq.symm ?_))), _, rfl⟩
                unfold fCentre
                first
                  | exact absurd ha h58
                  | exact absurd h58 ha
                  | exact if_pos (by omega)
                  | (rw [if_neg (by omega), if_pos ha, cen_x]; rfl)
                  | (rw [if_neg (by omega), if_neg ha, cen_y]; rfl)
              · skip
                refine q_aload_n (n := 62) dX8_centre_61 rfl rfl ?_
                refine q_getJE (sgn (lB (pM (σ 1) 2) (6 * t)) * mXd (pM (σ 1) 2) (6 * t)) (kI := 10) (n := 65) dX8_centre_62 rfl fX8_119 mi0 rfl rfl hmid.2.1 ?_
                have b70_ := (bd_mul (sgn_bd (lB (pM (σ 1) 2) (6 * t))) (mXd_bd hg) (C := 256000) (by decide))
                refine q_go (t := 72) dX8_centre_65 (by decide) ?_
                have b71_ := bd_add (C := 384000) b67_ b70_ (by decide)
                refine q_laddS (n := 73) dX8_centre_72 rfl (bd_64 b71_ (by decide)) ?_
                refine q_aload_n (n := 74) dX8_centre_73 rfl rfl ?_
                refine q_getJE (un (pM (σ 1) 2) t) (kI := 12) (n := 77) dX8_centre_74 rfl fX8_115 mi0 rfl rfl hmid.1 ?_
                refine q_iload_n (n := 78) dX8_centre_77 rfl rfl ?_
                refine q_c3D (n := 81) dX8_centre_78 rfl (zX8_lowest _ _ _ _ _ (by have z := bd_mul (lA_bd hg) (sgn_bd (lB (pM (σ 1) 2) (6 * t))) (C := 384000) (by decide); have z2 := bd_mul (lU_bd hg) (sgn_bd (lB (pM (σ 1) 2) (6 * t))) (C := 384000) (by decide); unfold q_bd at z z2; first | exact absurd ha h58 | exact absurd h58 ha | (rw [cen_x]; omega) | (rw [cen_y]; omega)) ⟨by omega, by omega⟩) vX8_lowest lX8_207 rfl rfl ?_
                refine q_lret dX8_centre_81 rfl ?_
                refine ⟨congrArg some (congrArg Sum.inr (congrArg Sum.inl (Eq.symm ?_))), _, rfl⟩
                unfold fCentre
                first
                  | exact absurd ha h58
                  | exact absurd h58 ha
                  | exact if_pos (by omega)
                  | (rw [if_neg (by omega), if_pos ha, cen_x]; rfl)
                  | (rw [if_neg (by omega), if_neg ha, cen_y]; rfl)
        · have hB := sg_nz h33
          refine q_ldc2 (x := -9223372036854775808) (n := 39) dX8_centre_36 rfl kX8_190 (k := ?_)
          refine q_lret dX8_centre_39 rfl ?_
          refine ⟨congrArg some (congrArg Sum.inr (congrArg Sum.inl (Eq.symm ?_))), _, rfl⟩
          unfold fCentre
          first
            | exact absurd ha h58
            | exact absurd h58 ha
            | exact if_pos (by omega)
            | (rw [if_neg (by omega), if_pos ha, cen_x]; rfl)
            | (rw [if_neg (by omega), if_neg ha, cen_y]; rfl)
