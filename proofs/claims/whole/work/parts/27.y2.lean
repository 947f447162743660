theorem zO_hasTrack (σ s : q_S) (t : Int) : q_Ct mX3_hasTrack shX [.inr (.inr 1), .inl t] (ov σ s) (fun r σ' => r = some (.inl (if 0 ≤ t ∧ t < σ 1 1 then 1 else 0)) ∧ σ' = ov σ s) := zX3_hasTrack 1 t (ov σ s) pic1
theorem zO_hasVertex (σ s : q_S) (t : Int) : q_Ct mX3_hasVertex shX [.inr (.inr 1), .inl t] (ov σ s) (fun r σ' => r = some (.inl (if 0 ≤ t ∧ t < σ 1 2 then 1 else 0)) ∧ σ' = ov σ s) := zX3_hasVertex 1 t (ov σ s) pic1
theorem zC_turn (σ s : q_S) (f : Int → Int) (t : Int) (h : 0 ≤ t ∧ t < 8) (hl : laid s t f) : q_Ct mX0_turn shX [.inr (.inr (96 + t))] (ov σ s) (fun r σ' => r = some (.inl (sgn (lB f (6 * t)))) ∧ σ' = ov σ s) := by
  have h1 := zX0_turn (96 + t) (ov σ s) (curN t h)
  rw [ov_s (sc_cv h 0), hl.1] at h1
  exact h1
theorem zC_isStraight (σ s : q_S) (f : Int → Int) (t : Int) (h : 0 ≤ t ∧ t < 8) (hl : laid s t f) : q_Ct mX0_isStraight shX [.inr (.inr (96 + t))] (ov σ s) (fun r σ' => r = some (.inl (if lB f (6 * t) = 0 then 1 else 0)) ∧ σ' = ov σ s) := by
  have h1 := zX0_isStraight (96 + t) (ov σ s) (curN t h)
  rw [ov_s (sc_cv h 0), hl.1] at h1
  exact h1
theorem onb_eq {f : Int → Int} {t x y : Int} : (if lB f (6 * t) * (x * x + y * y) - lA f (6 * t) * x - lU f (6 * t) * y + lO f (6 * t) = 0 then (1 : Int) else 0) = if onb f t x y = true then 1 else 0 := by
  unfold onb
  by_cases h : lB f (6 * t) * (x * x + y * y) - lA f (6 * t) * x - lU f (6 * t) * y + lO f (6 * t) = 0
  · rw [if_pos h, if_pos (decide_eq_true h)]
  · rw [if_neg h, if_neg (by rw [decide_eq_false h]; exact Bool.false_ne_true)]
theorem zC_passes (σ s : q_S) (f : Int → Int) (t x y : Int) (h : 0 ≤ t ∧ t < 8) (hl : laid s t f) (hg : lG f (6 * t)) (hx : -20 ≤ x ∧ x ≤ 20) (hy : -20 ≤ y ∧ y ≤ 20) : q_Ct mX0_passes shX [.inr (.inr (96 + t)), .inl x, .inl y] (ov σ s) (fun r σ' => r = some (.inl (if onb f t x y = true then 1 else 0)) ∧ σ' = ov σ s) := by
  have e : ∀ k, ov σ s (96 + t) k = s (96 + t) k := fun k => ov_s (sc_cv h k)
  have h1 := zX0_passes (96 + t) x y (ov σ s) (curN t h) hx hy (by rw [e, hl.1]; exact lB_bd hg) (by rw [e, hl.2.1]; exact lA_bd hg) (by rw [e, hl.2.2.1]; exact lU_bd hg) (by rw [e, hl.2.2.2]; exact lO_bd hg)
  rw [e, e, e, e, hl.1, hl.2.1, hl.2.2.1, hl.2.2.2, onb_eq] at h1
  exact h1
/-- lowest terms -/
def lowG (a b k : Int) : Int := (if k = 0 then a else b).tdiv (Int.gcd a b)
theorem lowE_G {a b k : Int} (ha : -9223372036854775808 < a ∧ a < 9223372036854775808) (hb : 1 ≤ b ∧ b < 9223372036854775808) : lowE a b k = lowG a b k := by
  have e1 : (if 0 ≤ a then a else -a) = ((a.natAbs : Nat) : Int) := by split <;> omega
  have e2 : b = ((b.natAbs : Nat) : Int) := by omega
  have e3 : euc 128 (if 0 ≤ a then a else -a) b = ((Int.gcd a b : Nat) : Int) := by
    rw [e1]
    conv => lhs; rw [e2]
    exact euc_gcd 63 128 a.natAbs b.natAbs (by omega) (by omega)
  have e4 : 0 < Int.gcd a b := Int.gcd_pos_of_ne_zero_right _ (by omega)
  unfold lowE lowG
  rw [e3, if_neg (show ¬ ((Int.gcd a b : Nat) : Int) < 1 by omega)]
  apply q_W_id
  have h5 : -9223372036854775807 ≤ (if k = 0 then a else b) ∧ (if k = 0 then a else b) ≤ 9223372036854775807 := by split <;> omega
  have h6 := q_tdiv_lt (y := ((Int.gcd a b : Nat) : Int)) h5.1 h5.2
  unfold q_i64
  omega
def fTrackOf (nt : Int) (f kd : Int → Int) (t w : Int) : Int := if ¬ (0 ≤ t ∧ t < nt) ∨ w < 0 ∨ 7 < w then -1 else if w = 6 then sgn (lB f (6 * t)) + 1 else if w = 7 then kd t else f (6 * t + w)
def fBend (nt : Int) (f : Int → Int) (t : Int) : Int := if 0 ≤ t ∧ t < nt then lB f (6 * t) else -9223372036854775808
def fOn (nt : Int) (f : Int → Int) (t x y : Int) : Int := if ¬ (0 ≤ t ∧ t < nt) ∨ ¬ ((-20 ≤ x ∧ x ≤ 20) ∧ -20 ≤ y ∧ y ≤ 20) then -1 else if onb f t x y = true then 1 else 0
def fCentre (nt : Int) (f : Int → Int) (t a k : Int) : Int := if ¬ (0 ≤ t ∧ t < nt) ∨ ¬ (a = 0 ∨ a = 1) ∨ ¬ (k = 0 ∨ k = 1) ∨ lB f (6 * t) = 0 then -9223372036854775808 else lowG ((if a = 0 then lA f (6 * t) else lU f (6 * t)) * sgn (lB f (6 * t))) (2 * (if 0 ≤ lB f (6 * t) then lB f (6 * t) else -lB f (6 * t))) k
theorem sgn_bd (x : Int) : q_bd (sgn x) 1 := by
  unfold sgn q_bd
  split
  · omega
  · split <;> omega
set_option maxRecDepth 100000 in
theorem zX7_trackOf (t x : Int) (σ s : q_S) (hI : IX σ) : q_Ct mX7_trackOf shX [.inr (.inr 0), .inl t, .inl x] (ov σ s) (fun r σ' => r = some (.inl (fTrackOf (σ 1 1) (σ 2) (σ 3) t x)) ∧ ∃ s', σ' = ov σ s') := by
  refine q_ct 0 (by decide) rfl rfl ?_
  show q_WP mX7_trackOf shX 0 [some (.inr (.inr 0)), some (.inl t), some (.inl x)] [] (ov σ s) _
  have hI0 := hI
  obtain ⟨⟨hfd, hnt, hnv, hpt, hkd, hvx⟩, hnx, hcg, hln, hby, hpb, hrw⟩ := hI
  refine q_aload_n (n := 1) dX7_trackOf_0 rfl rfl ?_
  refine q_getR (n := 4) dX7_trackOf_1 rfl fX7_12 xi0 rfl ?_
  refine q_iload_n (n := 5) dX7_trackOf_4 rfl rfl ?_
  refine q_v1D (n := 8) dX7_trackOf_5 rfl (zO_hasTrack _ _ _) vX3_hasTrack lX7_112 rfl rfl xi1 rfl ?_
  refine q_if_eq (n := 11) (t := 21) dX7_trackOf_8 rfl (by decide) (fun h8 => ?_) (fun h8 => ?_)
  · have h8 := q_b0.mp h8
    refine q_iconst (n := 22) dX7_trackOf_21 rfl (k := ?_)
    refine q_iret dX7_trackOf_22 rfl (fun _ => rfl) ?_
    refine ⟨congrArg some ((congrArg Sum.inl (Eq.symm ?_))), _, rfl⟩
    unfold fTrackOf
    repeat (first | rw [if_pos (by first | assumption | omega)] | rw [if_neg (by first | assumption | omega)])
    try (first | rfl | omega)
  · have h8 := q_b1.mp h8
    refine q_iload_n (n := 12) dX7_trackOf_11 rfl rfl ?_
    refine q_if_lt (n := 15) (t := 21) dX7_trackOf_12 rfl (by decide) (fun h12 => ?_) (fun h12 => ?_)
    · skip
      refine q_iconst (n := 22) dX7_trackOf_21 rfl (k := ?_)
      refine q_iret dX7_trackOf_22 rfl (fun _ => rfl) ?_
      refine ⟨congrArg some ((congrArg Sum.inl (Eq.symm ?_))), _, rfl⟩
      unfold fTrackOf
      repeat (first | rw [if_pos (by first | assumption | omega)] | rw [if_neg (by first | assumption | omega)])
      try (first | rfl | omega)
    · skip
      refine q_iload_n (n := 16) dX7_trackOf_15 rfl rfl ?_
      refine q_bipush (n := 18) dX7_trackOf_16 rfl (k := ?_)
      refine q_icmp_le (n := 21) (t := 23) dX7_trackOf_18 rfl (by decide) (fun h18 => ?_) (fun h18 => ?_)
      · skip
        refine q_iload_n (n := 24) dX7_trackOf_23 rfl rfl ?_
        refine q_bipush (n := 26) dX7_trackOf_24 rfl (k := ?_)
        refine q_icmp_ne (n := 29) (t := 40) dX7_trackOf_26 rfl (by decide) (fun h26 => ?_) (fun h26 => ?_)
        · skip
          refine q_iload_n (n := 41) dX7_trackOf_40 rfl rfl ?_
          refine q_bipush (n := 43) dX7_trackOf_41 rfl (k := ?_)
          refine q_icmp_ne (n := 46) (t := 58) dX7_trackOf_43 rfl (by decide) (fun h43 => ?_) (fun h43 => ?_)
          · skip
            refine q_aload_n (n := 59) dX7_trackOf_58 rfl rfl ?_
            refine q_getR (n := 62) dX7_trackOf_59 rfl fX7_12 xi0 rfl ?_
            refine q_getR (n := 65) dX7_trackOf_62 rfl fX7_126 xi1 rfl ?_
            refine q_bipush (n := 67) dX7_trackOf_65 rfl (k := ?_)
            refine q_iload_n (n := 68) dX7_trackOf_67 rfl rfl ?_
            refine q_imulS (n := 69) dX7_trackOf_68 rfl ⟨by omega, by omega⟩ ?_
            refine q_iload_n (n := 70) dX7_trackOf_69 rfl rfl ?_
            refine q_iaddS (n := 71) dX7_trackOf_70 rfl ⟨by omega, by omega⟩ ?_
            refine q_ialoadF (σ 2) (n := 72) dX7_trackOf_71 rfl xi2 ⟨by omega, by omega⟩ rfl ?_
            refine q_iret dX7_trackOf_72 rfl (fun _ => rfl) ?_
            refine ⟨congrArg some ((congrArg Sum.inl (Eq.symm ?_))), _, rfl⟩
            unfold fTrackOf
            repeat (first | rw [if_pos (by first | assumption | omega)] | rw [if_neg (by first | assumption | omega)])
            try (first | rfl | omega)
          · skip
            refine q_aload_n (n := 47) dX7_trackOf_46 rfl rfl ?_
            refine q_getR (n := 50) dX7_trackOf_47 rfl fX7_12 xi0 rfl ?_
            refine q_getR (n := 53) dX7_trackOf_50 rfl fX7_123 xi1 rfl ?_
            refine q_iload_n (n := 54) dX7_trackOf_53 rfl rfl ?_
            refine q_ialoadF (σ 3) (n := 55) dX7_trackOf_54 rfl xi3 ⟨by omega, by omega⟩ rfl ?_
            refine q_go (t := 72) dX7_trackOf_55 (by decide) ?_
            refine q_iret dX7_trackOf_72 rfl (fun _ => rfl) ?_
            refine ⟨congrArg some ((congrArg Sum.inl (Eq.symm ?_))), _, rfl⟩
            unfold fTrackOf
            repeat (first | rw [if_pos (by first | assumption | omega)] | rw [if_neg (by first | assumption | omega)])
            try (first | rfl | omega)
        · have ht8 : 0 ≤ t ∧ t < 8 := by omega
          have hg := hI0.pt (by omega : 0 ≤ t ∧ t < σ 1 1)
          have hsg := sgn_bd (lB (σ 2) (6 * t))
          unfold q_bd at hsg
          refine q_aload_n (n := 30) dX7_trackOf_29 rfl rfl ?_
          refine q_iload_n (n := 31) dX7_trackOf_30 rfl rfl ?_
          refine q_v1D (n := 34) dX7_trackOf_31 rfl (zX7_curveOf σ _ t hI0 (by omega)) vX7_curveOf lX7_116 rfl rfl xi0 rfl ?_
          refine q_v0D (n := 37) dX7_trackOf_34 rfl (zC_turn _ _ _ t ht8 laid_cvl) vX0_turn lX7_120 rfl rfl (curN t ht8) rfl ?_
          refine q_iconst (n := 38) dX7_trackOf_37 rfl (k := ?_)
          refine q_iaddS (n := 39) dX7_trackOf_38 rfl ⟨by omega, by omega⟩ ?_
          refine q_iret dX7_trackOf_39 rfl (fun _ => rfl) ?_
          refine ⟨congrArg some ((congrArg Sum.inl (Eq.symm ?_))), _, rfl⟩
          unfold fTrackOf
          repeat (first | rw [if_pos (by first | assumption | omega)] | rw [if_neg (by first | assumption | omega)])
          try (first | rfl | omega)
      · skip
        refine q_iconst (n := 22) dX7_trackOf_21 rfl (k := ?_)
        refine q_iret dX7_trackOf_22 rfl (fun _ => rfl) ?_
        refine ⟨congrArg some ((congrArg Sum.inl (Eq.symm ?_))), _, rfl⟩
        unfold fTrackOf
        repeat (first | rw [if_pos (by first | assumption | omega)] | rw [if_neg (by first | assumption | omega)])
        try (first | rfl | omega)
set_option maxRecDepth 100000 in
theorem zX7_bend (t : Int) (σ s : q_S) (hI : IX σ) : q_Ct mX7_bend shX [.inr (.inr 0), .inl t] (ov σ s) (fun r σ' => r = some (.inr (.inl (fBend (σ 1 1) (σ 2) t))) ∧ ∃ s', σ' = ov σ s') := by
  refine q_ct 0 (by decide) rfl rfl ?_
  show q_WP mX7_bend shX 0 [some (.inr (.inr 0)), some (.inl t)] [] (ov σ s) _
  have hI0 := hI
  obtain ⟨⟨hfd, hnt, hnv, hpt, hkd, hvx⟩, hnx, hcg, hln, hby, hpb, hrw⟩ := hI
  refine q_aload_n (n := 1) dX7_bend_0 rfl rfl ?_
  refine q_getR (n := 4) dX7_bend_1 rfl fX7_12 xi0 rfl ?_
  refine q_iload_n (n := 5) dX7_bend_4 rfl rfl ?_
  refine q_v1D (n := 8) dX7_bend_5 rfl (zO_hasTrack _ _ _) vX3_hasTrack lX7_112 rfl rfl xi1 rfl ?_
  refine q_if_eq (n := 11) (t := 22) dX7_bend_8 rfl (by decide) (fun h8 => ?_) (fun h8 => ?_)
  · have h8 := q_b0.mp h8
    refine q_ldc2 (x := -9223372036854775808) (n := 25) dX7_bend_22 rfl kX7_133 (k := ?_)
    refine q_lret dX7_bend_25 rfl ?_
    refine ⟨congrArg some (congrArg Sum.inr (congrArg Sum.inl (Eq.symm ?_))), _, rfl⟩
    unfold fBend
    repeat (first | rw [if_pos (by first | assumption | omega)] | rw [if_neg (by first | assumption | omega)])
    try (first | rfl | omega)
  · have h8 := q_b1.mp h8
    have ht8 : 0 ≤ t ∧ t < 8 := by omega
    have hg := hI0.pt (by omega : 0 ≤ t ∧ t < σ 1 1)
    refine q_aload_n (n := 12) dX7_bend_11 rfl rfl ?_
    refine q_iload_n (n := 13) dX7_bend_12 rfl rfl ?_
    refine q_v1D (n := 16) dX7_bend_13 rfl (zX7_curveOf σ _ t hI0 (by omega)) vX7_curveOf lX7_116 rfl rfl xi0 rfl ?_
    refine q_getJE (lB (σ 2) (6 * t)) (kI := 0) (n := 19) dX7_bend_16 rfl fX7_129 (curN t ht8) rfl rfl (by rw [ov_s (sc_cv ht8 _)]; exact laid_cvl.1) ?_
    refine q_go (t := 25) dX7_bend_19 (by decide) ?_
    refine q_lret dX7_bend_25 rfl ?_
    refine ⟨congrArg some (congrArg Sum.inr (congrArg Sum.inl (Eq.symm ?_))), _, rfl⟩
    unfold fBend
    repeat (first | rw [if_pos (by first | assumption | omega)] | rw [if_neg (by first | assumption | omega)])
    try (first | rfl | omega)
set_option maxRecDepth 100000 in
theorem zX7_on (t x y : Int) (σ s : q_S) (hI : IX σ) : q_Ct mX7_on shX [.inr (.inr 0), .inl t, .inl x, .inl y] (ov σ s) (fun r σ' => r = some (.inl (fOn (σ 1 1) (σ 2) t x y)) ∧ ∃ s', σ' = ov σ s') := by
  refine q_ct 0 (by decide) rfl rfl ?_
  show q_WP mX7_on shX 0 [some (.inr (.inr 0)), some (.inl t), some (.inl x), some (.inl y)] [] (ov σ s) _
  have hI0 := hI
  obtain ⟨⟨hfd, hnt, hnv, hpt, hkd, hvx⟩, hnx, hcg, hln, hby, hpb, hrw⟩ := hI
  refine q_aload_n (n := 1) dX7_on_0 rfl rfl ?_
  refine q_getR (n := 4) dX7_on_1 rfl fX7_12 xi0 rfl ?_
  refine q_iload_n (n := 5) dX7_on_4 rfl rfl ?_
  refine q_v1D (n := 8) dX7_on_5 rfl (zO_hasTrack _ _ _) vX3_hasTrack lX7_112 rfl rfl xi1 rfl ?_
  refine q_if_eq (n := 11) (t := 19) dX7_on_8 rfl (by decide) (fun h8 => ?_) (fun h8 => ?_)
  · have h8 := q_b0.mp h8
    refine q_iconst (n := 20) dX7_on_19 rfl (k := ?_)
    refine q_iret dX7_on_20 rfl (fun _ => rfl) ?_
    refine ⟨congrArg some ((congrArg Sum.inl (Eq.symm ?_))), _, rfl⟩
    unfold fOn
    repeat (first | rw [if_pos (by first | assumption | omega)] | rw [if_neg (by first | assumption | omega)])
    try (first | rfl | omega)
  · have h8 := q_b1.mp h8
    have ht8 : 0 ≤ t ∧ t < 8 := by omega
    have hg := hI0.pt (by omega : 0 ≤ t ∧ t < σ 1 1)
    refine q_iload_n (n := 12) dX7_on_11 rfl rfl ?_
    refine q_iload_n (n := 13) dX7_on_12 rfl rfl ?_
    refine q_c2D (n := 16) dX7_on_13 rfl (zX7_isPoint _ _ _) vX7_isPoint lX7_202 rfl rfl ?_
    refine q_if_ne (n := 19) (t := 21) dX7_on_16 rfl (by decide) (fun h16 => ?_) (fun h16 => ?_)
    · have h16 := q_b1.mp h16
      refine q_aload_n (n := 22) dX7_on_21 rfl rfl ?_
      refine q_iload_n (n := 23) dX7_on_22 rfl rfl ?_
      refine q_v1D (n := 26) dX7_on_23 rfl (zX7_curveOf σ _ t hI0 (by omega)) vX7_curveOf lX7_116 rfl rfl xi0 rfl ?_
      refine q_iload_n (n := 27) dX7_on_26 rfl rfl ?_
      refine q_iload_n (n := 28) dX7_on_27 rfl rfl ?_
      refine q_v2D (n := 31) dX7_on_28 rfl (zC_passes _ _ _ t x y ht8 laid_cvl hg (by omega) (by omega)) vX0_passes lX7_206 rfl rfl (curN t ht8) rfl ?_
      refine q_if_eq (n := 34) (t := 38) dX7_on_31 rfl (by decide) (fun h31 => ?_) (fun h31 => ?_)
      · have h31 := q_b0.mp h31
        refine q_iconst (n := 39) dX7_on_38 rfl (k := ?_)
        refine q_iret dX7_on_39 rfl (fun _ => rfl) ?_
        refine ⟨congrArg some ((congrArg Sum.inl (Eq.symm ?_))), _, rfl⟩
        unfold fOn
        repeat (first | rw [if_pos (by first | assumption | omega)] | rw [if_neg (by first | assumption | omega)])
        try (first | rfl | omega)
      · have h31 := q_b1.mp h31
        refine q_iconst (n := 35) dX7_on_34 rfl (k := ?_)
        refine q_go (t := 39) dX7_on_35 (by decide) ?_
        refine q_iret dX7_on_39 rfl (fun _ => rfl) ?_
        refine ⟨congrArg some ((congrArg Sum.inl (Eq.symm ?_))), _, rfl⟩
        unfold fOn
        repeat (first | rw [if_pos (by first | assumption | omega)] | rw [if_neg (by first | assumption | omega)])
        try (first | rfl | omega)
    · have h16 := q_b0.mp h16
      refine q_iconst (n := 20) dX7_on_19 rfl (k := ?_)
      refine q_iret dX7_on_20 rfl (fun _ => rfl) ?_
      refine ⟨congrArg some ((congrArg Sum.inl (Eq.symm ?_))), _, rfl⟩
      unfold fOn
      repeat (first | rw [if_pos (by first | assumption | omega)] | rw [if_neg (by first | assumption | omega)])
      try (first | rfl | omega)
set_option maxRecDepth 100000 in
theorem zX7_centre (t a k : Int) (σ s : q_S) (hI : IX σ) : q_Ct mX7_centre shX [.inr (.inr 0), .inl t, .inl a, .inl k] (ov σ s) (fun r σ' => r = some (.inr (.inl (fCentre (σ 1 1) (σ 2) t a k))) ∧ ∃ s', σ' = ov σ s') := by
  refine q_ct 3 (by decide) rfl rfl ?_
  show q_WP mX7_centre shX 0 [some (.inr (.inr 0)), some (.inl t), some (.inl a), some (.inl k), none, none, none] [] (ov σ s) _
  have hI0 := hI
  obtain ⟨⟨hfd, hnt, hnv, hpt, hkd, hvx⟩, hnx, hcg, hln, hby, hpb, hrw⟩ := hI
  refine q_aload_n (n := 1) dX7_centre_0 rfl rfl ?_
  refine q_getR (n := 4) dX7_centre_1 rfl fX7_12 xi0 rfl ?_
  refine q_iload_n (n := 5) dX7_centre_4 rfl rfl ?_
  refine q_v1D (n := 8) dX7_centre_5 rfl (zO_hasTrack _ _ _) vX3_hasTrack lX7_112 rfl rfl xi1 rfl ?_
  refine q_if_eq (n := 11) (t := 25) dX7_centre_8 rfl (by decide) (fun h8 => ?_) (fun h8 => ?_)
  · have h8 := q_b0.mp h8
    refine q_ldc2 (x := -9223372036854775808) (n := 28) dX7_centre_25 rfl kX7_133 (k := ?_)
    refine q_lret dX7_centre_28 rfl ?_
    refine ⟨congrArg some (congrArg Sum.inr (congrArg Sum.inl (Eq.symm ?_))), _, rfl⟩
    unfold fCentre
    first
      | exact if_pos (by omega)
      | (rw [if_neg (by omega), if_pos h49]
         have hz := bd_mul (lA_bd hg) hsg (C := 384000) (by decide)
         unfold q_bd at hz hB0
         exact (lowE_G ⟨by omega, by omega⟩ ⟨by omega, by omega⟩).symm)
      | (rw [if_neg (by omega), if_neg h49]
         have hz := bd_mul (lU_bd hg) hsg (C := 384000) (by decide)
         unfold q_bd at hz hB0
         exact (lowE_G ⟨by omega, by omega⟩ ⟨by omega, by omega⟩).symm)
  · have h8 := q_b1.mp h8
    have ht8 : 0 ≤ t ∧ t < 8 := by omega
    have hg := hI0.pt (by omega : 0 ≤ t ∧ t < σ 1 1)
    have hB0 := lB_bd hg
    have hsg := sgn_bd (lB (σ 2) (6 * t))
    refine q_iload_n (n := 12) dX7_centre_11 rfl rfl ?_
    refine q_c1D (n := 15) dX7_centre_12 rfl (zX7_isAxis _ _) vX7_isAxis lX7_174 rfl rfl ?_
    refine q_if_eq (n := 18) (t := 25) dX7_centre_15 rfl (by decide) (fun h15 => ?_) (fun h15 => ?_)
    · have h15 := q_b0.mp h15
      refine q_ldc2 (x := -9223372036854775808) (n := 28) dX7_centre_25 rfl kX7_133 (k := ?_)
      refine q_lret dX7_centre_28 rfl ?_
      refine ⟨congrArg some (congrArg Sum.inr (congrArg Sum.inl (Eq.symm ?_))), _, rfl⟩
      unfold fCentre
      first
        | exact if_pos (by omega)
        | (rw [if_neg (by omega), if_pos h49]
           have hz := bd_mul (lA_bd hg) hsg (C := 384000) (by decide)
           unfold q_bd at hz hB0
           exact (lowE_G ⟨by omega, by omega⟩ ⟨by omega, by omega⟩).symm)
        | (rw [if_neg (by omega), if_neg h49]
           have hz := bd_mul (lU_bd hg) hsg (C := 384000) (by decide)
           unfold q_bd at hz hB0
           exact (lowE_G ⟨by omega, by omega⟩ ⟨by omega, by omega⟩).symm)
    · have h15 := q_b1.mp h15
      refine q_iload_n (n := 19) dX7_centre_18 rfl rfl ?_
      refine q_c1D (n := 22) dX7_centre_19 rfl (zX7_isPart _ _) vX7_isPart lX7_177 rfl rfl ?_
      refine q_if_ne (n := 25) (t := 29) dX7_centre_22 rfl (by decide) (fun h22 => ?_) (fun h22 => ?_)
      · have h22 := q_b1.mp h22
        refine q_aload_n (n := 30) dX7_centre_29 rfl rfl ?_
        refine q_iload_n (n := 31) dX7_centre_30 rfl rfl ?_
        refine q_v1D (n := 34) dX7_centre_31 rfl (zX7_curveOf σ _ t hI0 (by omega)) vX7_curveOf lX7_116 rfl rfl xi0 rfl ?_
        refine q_astore (n := 36) dX7_centre_34 rfl (Nat.le_of_ble_eq_true rfl) (q_s1_s (q_s1_s (q_s1_s (q_s1_1 rfl)))) ?_
        refine q_aload (n := 38) dX7_centre_36 rfl rfl ?_
        refine q_v0D (n := 41) dX7_centre_38 rfl (zC_isStraight _ _ _ t ht8 laid_cvl) vX0_isStraight lX7_180 rfl rfl (curN t ht8) rfl ?_
        refine q_if_eq (n := 44) (t := 48) dX7_centre_41 rfl (by decide) (fun h41 => ?_) (fun h41 => ?_)
        · have h41 := q_b0.mp h41
          refine q_iload_n (n := 49) dX7_centre_48 rfl rfl ?_
          refine q_if_ne (n := 52) (t := 60) dX7_centre_49 rfl (by decide) (fun h49 => ?_) (fun h49 => ?_)
          · skip
            refine q_aload (n := 62) dX7_centre_60 rfl rfl ?_
            refine q_getJE (lU (σ 2) (6 * t)) (kI := 2) (n := 65) dX7_centre_62 rfl fX7_187 (curN t ht8) rfl rfl (by rw [ov_s (sc_cv ht8 _)]; exact laid_cvl.2.2.1) ?_
            have b1_ := lU_bd hg
            refine q_lstore (n := 67) dX7_centre_65 rfl (Nat.le_of_ble_eq_true rfl) (q_s2_s (q_s2_s (q_s2_s (q_s2_s (q_s2_1 rfl))))) ?_
            refine q_lload (n := 69) dX7_centre_67 rfl rfl ?_
            refine q_aload (n := 71) dX7_centre_69 rfl rfl ?_
            refine q_v0D (n := 74) dX7_centre_71 rfl (zC_turn _ _ _ t ht8 laid_cvl) vX0_turn lX7_120 rfl rfl (curN t ht8) rfl ?_
            have b2_ := hsg
            refine q_i2l (n := 75) dX7_centre_74 rfl ?_
            have b3_ := bd_mul (C := 384000) b1_ b2_ (by decide)
            refine q_lmulS (n := 76) dX7_centre_75 rfl (bd_64 b3_ (by decide)) ?_
            refine q_ldc2 (x := 2) (n := 79) dX7_centre_76 rfl kX7_190 (k := ?_)
            refine q_aload (n := 81) dX7_centre_79 rfl rfl ?_
            refine q_getJE (lB (σ 2) (6 * t)) (kI := 0) (n := 84) dX7_centre_81 rfl fX7_129 (curN t ht8) rfl rfl (by rw [ov_s (sc_cv ht8 _)]; exact laid_cvl.1) ?_
            have b4_ := hB0
            refine q_mabsL (n := 87) dX7_centre_84 rfl lmX7_192 rfl rfl (bd_g b4_ (by decide)) ?_
            have b5_ := bd_abs b4_
            have b6_ := bd_mul (C := 6400) (bd_c 2 (2) (by decide)) b5_ (by decide)
            refine q_lmulS (n := 88) dX7_centre_87 rfl (bd_64 b6_ (by decide)) ?_
            refine q_iload_n (n := 89) dX7_centre_88 rfl rfl ?_
            refine q_c3D (n := 92) dX7_centre_89 rfl (zX7_lowest _ _ _ _ _ (by first | exact bd_g (bd_mul (lA_bd hg) hsg (C := 384000) (by decide)) (by decide) | exact bd_g (bd_mul (lU_bd hg) hsg (C := 384000) (by decide)) (by decide))) vX7_lowest lX7_198 rfl rfl ?_
            refine q_lret dX7_centre_92 rfl ?_
            refine ⟨congrArg some (congrArg Sum.inr (congrArg Sum.inl (Eq.symm ?_))), _, rfl⟩
            unfold fCentre
            first
              | exact if_pos (by omega)
              | (rw [if_neg (by omega), if_pos h49]
                 have hz := bd_mul (lA_bd hg) hsg (C := 384000) (by decide)
                 unfold q_bd at hz hB0
                 exact (lowE_G ⟨by omega, by omega⟩ ⟨by omega, by omega⟩).symm)
              | (rw [if_neg (by omega), if_neg h49]
                 have hz := bd_mul (lU_bd hg) hsg (C := 384000) (by decide)
                 unfold q_bd at hz hB0
                 exact (lowE_G ⟨by omega, by omega⟩ ⟨by omega, by omega⟩).symm)
          · skip
            refine q_aload (n := 54) dX7_centre_52 rfl rfl ?_
            refine q_getJE (lA (σ 2) (6 * t)) (kI := 1) (n := 57) dX7_centre_54 rfl fX7_184 (curN t ht8) rfl rfl (by rw [ov_s (sc_cv ht8 _)]; exact laid_cvl.2.1) ?_
            have b7_ := lA_bd hg
            refine q_go (t := 65) dX7_centre_57 (by decide) ?_
            refine q_lstore (n := 67) dX7_centre_65 rfl (Nat.le_of_ble_eq_true rfl) (q_s2_s (q_s2_s (q_s2_s (q_s2_s (q_s2_1 rfl))))) ?_
            refine q_lload (n := 69) dX7_centre_67 rfl rfl ?_
            refine q_aload (n := 71) dX7_centre_69 rfl rfl ?_
            refine q_v0D (n := 74) dX7_centre_71 rfl (zC_turn _ _ _ t ht8 laid_cvl) vX0_turn lX7_120 rfl rfl (curN t ht8) rfl ?_
            have b8_ := hsg
            refine q_i2l (n := 75) dX7_centre_74 rfl ?_
            have b9_ := bd_mul (C := 384000) b7_ b8_ (by decide)
            refine q_lmulS (n := 76) dX7_centre_75 rfl (bd_64 b9_ (by decide)) ?_
            refine q_ldc2 (x := 2) (n := 79) dX7_centre_76 rfl kX7_190 (k := ?_)
            refine q_aload (n := 81) dX7_centre_79 rfl rfl ?_
            refine q_getJE (lB (σ 2) (6 * t)) (kI := 0) (n := 84) dX7_centre_81 rfl fX7_129 (curN t ht8) rfl rfl (by rw [ov_s (sc_cv ht8 _)]; exact laid_cvl.1) ?_
            have b10_ := hB0
            refine q_mabsL (n := 87) dX7_centre_84 rfl lmX7_192 rfl rfl (bd_g b10_ (by decide)) ?_
            have b11_ := bd_abs b10_
            have b12_ := bd_mul (C := 6400) (bd_c 2 (2) (by decide)) b11_ (by decide)
            refine q_lmulS (n := 88) dX7_centre_87 rfl (bd_64 b12_ (by decide)) ?_
            refine q_iload_n (n := 89) dX7_centre_88 rfl rfl ?_
            refine q_c3D (n := 92) dX7_centre_89 rfl (zX7_lowest _ _ _ _ _ (by first | exact bd_g (bd_mul (lA_bd hg) hsg (C := 384000) (by decide)) (by decide) | exact bd_g (bd_mul (lU_bd hg) hsg (C := 384000) (by decide)) (by decide))) vX7_lowest lX7_198 rfl rfl ?_
            refine q_lret dX7_centre_92 rfl ?_
            refine ⟨congrArg some (congrArg Sum.inr (congrArg Sum.inl (Eq.symm ?_))), _, rfl⟩
            unfold fCentre
            first
              | exact if_pos (by omega)
              | (rw [if_neg (by omega), if_pos h49]
                 have hz := bd_mul (lA_bd hg) hsg (C := 384000) (by decide)
                 unfold q_bd at hz hB0
                 exact (lowE_G ⟨by omega, by omega⟩ ⟨by omega, by omega⟩).symm)
              | (rw [if_neg (by omega), if_neg h49]
                 have hz := bd_mul (lU_bd hg) hsg (C := 384000) (by decide)
                 unfold q_bd at hz hB0
                 exact (lowE_G ⟨by omega, by omega⟩ ⟨by omega, by omega⟩).symm)
        · have h41 := q_b1.mp h41
          refine q_ldc2 (x := -9223372036854775808) (n := 47) dX7_centre_44 rfl kX7_133 (k := ?_)
          refine q_lret dX7_centre_47 rfl ?_
          refine ⟨congrArg some (congrArg Sum.inr (congrArg Sum.inl (Eq.symm ?_))), _, rfl⟩
          unfold fCentre
          first
            | exact if_pos (by omega)
            | (rw [if_neg (by omega), if_pos h49]
               have hz := bd_mul (lA_bd hg) hsg (C := 384000) (by decide)
               unfold q_bd at hz hB0
               exact (lowE_G ⟨by omega, by omega⟩ ⟨by omega, by omega⟩).symm)
            | (rw [if_neg (by omega), if_neg h49]
               have hz := bd_mul (lU_bd hg) hsg (C := 384000) (by decide)
               unfold q_bd at hz hB0
               exact (lowE_G ⟨by omega, by omega⟩ ⟨by omega, by omega⟩).symm)
      · have h22 := q_b0.mp h22
        refine q_ldc2 (x := -9223372036854775808) (n := 28) dX7_centre_25 rfl kX7_133 (k := ?_)
        refine q_lret dX7_centre_28 rfl ?_
        refine ⟨congrArg some (congrArg Sum.inr (congrArg Sum.inl (Eq.symm ?_))), _, rfl⟩
        unfold fCentre
        first
          | exact if_pos (by omega)
          | (rw [if_neg (by omega), if_pos h49]
             have hz := bd_mul (lA_bd hg) hsg (C := 384000) (by decide)
             unfold q_bd at hz hB0
             exact (lowE_G ⟨by omega, by omega⟩ ⟨by omega, by omega⟩).symm)
          | (rw [if_neg (by omega), if_neg h49]
             have hz := bd_mul (lU_bd hg) hsg (C := 384000) (by decide)
             unfold q_bd at hz hB0
             exact (lowE_G ⟨by omega, by omega⟩ ⟨by omega, by omega⟩).symm)
