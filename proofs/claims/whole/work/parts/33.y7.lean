theorem dv_i {i k : Int} (h : 0 ≤ i ∧ i < 2000000000) (hk : 0 < k) : q_w (i.tdiv k) = i / k := by
  have e : i.tdiv k = i / k := Int.tdiv_eq_ediv_of_nonneg h.1
  rw [e]
  have h1 : 0 ≤ i / k := Int.ediv_nonneg h.1 (by omega)
  have h2 : i / k ≤ i := Int.ediv_le_self _ h.1
  exact q_w_id ⟨by omega, by omega⟩
theorem rm_i {i k : Int} (h : 0 ≤ i) : i.tmod k = i % k := Int.tmod_eq_emod_of_nonneg h
theorem pi_w {p i sz : Int} (hp : 0 ≤ p ∧ p < 2147483648) (hi : 0 ≤ i ∧ i < 16) (hs : sz ≤ 24) : (0 ≤ q_w (p + i) ∧ q_w (p + i) < sz) ↔ p + i < sz := by
  by_cases h : p + i < 2147483648
  · rw [q_w_id (show q_i32 (p + i) from ⟨by omega, h⟩)]
    omega
  · have e : q_w (p + i) = p + i - 4294967296 := by
      unfold q_w
      rw [Int.bmod_def]
      omega
    rw [e]
    omega
theorem pi_e {p i sz : Int} (hp : 0 ≤ p ∧ p < 2147483648) (hi : 0 ≤ i ∧ i < 16) (hs : sz ≤ 24) (h : p + i < sz) : q_w (p + i) = p + i := q_w_id ⟨by omega, by omega⟩
set_option maxRecDepth 100000 in
theorem zX7_toldNumber (v i : Int) (σ s : q_S) (hI : IX σ) (hv : 0 ≤ v ∧ v < σ 1 2) (hb : balb (σ 2) (σ 1 1) (σ 6 v) (σ 7 v) = true) (hm : (∀ j, 0 ≤ j → j < mC (σ 6 v) (σ 7 v) (σ 1 1) → s 83 j = mF (σ 6 v) (σ 7 v) (σ 1 1) j)) (h : 0 ≤ i ∧ i < 4 * (mC (σ 6 v) (σ 7 v) (σ 1 1))) : q_Ct mX7_toldNumber shX [.inr (.inr 0), .inl v, .inl i] (ov σ s) (fun r σ' => ∃ z, r = some z ∧ (z = .inr (.inl ((tnF (σ 2) (σ 1 0) (σ 4 v) (σ 5 v) (mF (σ 6 v) (σ 7 v) (σ 1 1))) i)) ∧ ∃ s', σ' = ov σ s' ∧ s' 83 = s 83)) := by
  refine q_ct 1 (by decide) rfl rfl ?_
  show q_WP mX7_toldNumber shX 0 [some (.inr (.inr 0)), some (.inl v), some (.inl i), none] [] (ov σ s) _
  have hI0 := hI
  have hvt := hI0.tie hv
  have hn := hI0.1.2.1
  have hc := mem_C hn hvt.2.2
  have hF9 := hI0.fd
  have hvv := hI.1.2.2.1
  have hd : 0 ≤ i / 4 ∧ i / 4 < mC (σ 6 v) (σ 7 v) (σ 1 1) := by omega
  have ht0 := hI.mem hv hd
  have hmi := hm (i / 4) hd.1 hd.2
  have hB := balb_at hb hd
  obtain ⟨t, ht⟩ : ∃ t, t = mF (σ 6 v) (σ 7 v) (σ 1 1) (i / 4) := ⟨_, rfl⟩
  rw [← ht] at ht0 hmi hB
  have hg := hI.pt ht0
  have hpx := pXY_div hg hB hF9 hvt.1 hvt.2.1
  have hub := un_bd hg hB
  refine q_aload_n (n := 1) dX7_toldNumber_0 rfl rfl ?_
  refine q_aload_n (n := 2) dX7_toldNumber_1 rfl rfl ?_
  refine q_getR (n := 5) dX7_toldNumber_2 rfl fX7_48 xi0 rfl ?_
  refine q_iload_n (n := 6) dX7_toldNumber_5 rfl rfl ?_
  refine q_iconst (n := 7) dX7_toldNumber_6 rfl (k := ?_)
  refine q_idiv (n := 8) dX7_toldNumber_7 rfl (by omega) ?_
  refine q_topI (i / 4) (dv_i ⟨h.1, by omega⟩ (by decide)) ?_
  refine q_ialoadE (t) (n := 9) dX7_toldNumber_8 rfl xi83 ⟨by omega, by omega⟩ hmi ?_
  refine q_aload_n (n := 10) dX7_toldNumber_9 rfl rfl ?_
  refine q_getR (n := 13) dX7_toldNumber_10 rfl fX7_12 xi0 rfl ?_
  refine q_getR (n := 16) dX7_toldNumber_13 rfl fX7_138 xi1 rfl ?_
  refine q_iload_n (n := 17) dX7_toldNumber_16 rfl rfl ?_
  refine q_ialoadF (σ 4) (n := 18) dX7_toldNumber_17 rfl xi4 ⟨by omega, by omega⟩ rfl ?_
  refine q_aload_n (n := 19) dX7_toldNumber_18 rfl rfl ?_
  refine q_getR (n := 22) dX7_toldNumber_19 rfl fX7_12 xi0 rfl ?_
  refine q_getR (n := 25) dX7_toldNumber_22 rfl fX7_141 xi1 rfl ?_
  refine q_iload_n (n := 26) dX7_toldNumber_25 rfl rfl ?_
  refine q_ialoadF (σ 5) (n := 27) dX7_toldNumber_26 rfl xi5 ⟨by omega, by omega⟩ rfl ?_
  refine q_aload_n (n := 28) dX7_toldNumber_27 rfl rfl ?_
  refine q_getR (n := 31) dX7_toldNumber_28 rfl fX7_12 xi0 rfl ?_
  refine q_getIF (σ 1) (kI := 0) (n := 34) (by decide) dX7_toldNumber_31 rfl fX7_156 xi1 rfl rfl rfl ?_
  refine q_v4 (n := 37) dX7_toldNumber_34 rfl (zX7_pushOf t (σ 4 v) (σ 5 v) (σ 1 0) _ _ hI0 ht0 hB hvt.1 hvt.2.1 hF9) vX7_pushOf lX7_213 rfl rfl xi0 rfl (fun v34 σ34 h34 => ?_)
  obtain ⟨rfl, s2, rfl, hps, h83, _⟩ := h34
  · skip
    refine q_astore_n (n := 38) dX7_toldNumber_37 rfl (Nat.le_of_ble_eq_true rfl) (q_s1_s (q_s1_s (q_s1_1 rfl))) ?_
    refine q_aload_n (n := 39) dX7_toldNumber_38 rfl rfl ?_
    refine q_iload_n (n := 40) dX7_toldNumber_39 rfl rfl ?_
    refine q_iconst (n := 41) dX7_toldNumber_40 rfl (k := ?_)
    refine q_irem (n := 42) dX7_toldNumber_41 rfl (by omega) ?_
    refine q_topI (i % 4) (rm_i h.1) ?_
    refine q_iconst (n := 43) dX7_toldNumber_42 rfl (k := ?_)
    refine q_idiv (n := 44) dX7_toldNumber_43 rfl (by omega) ?_
    refine q_topI (i % 4 / 2) (dv_i ⟨by omega, by omega⟩ (by decide)) ?_
    refine q_iload_n (n := 45) dX7_toldNumber_44 rfl rfl ?_
    refine q_iconst (n := 46) dX7_toldNumber_45 rfl (k := ?_)
    refine q_irem (n := 47) dX7_toldNumber_46 rfl (by omega) ?_
    refine q_topI (i % 2) (rm_i h.1) ?_
    refine q_v2D (n := 50) dX7_toldNumber_47 rfl (zC_partAlong _ _ 82 (pX (σ 2) (σ 1 0) (σ 5 v) t) (pY (σ 2) (σ 1 0) (σ 4 v) t) (un (σ 2) t) (i % 4 / 2) (i % 2) (Or.inr rfl) hps ⟨by omega, by omega⟩ (bd_le hpx.1.1 (by decide)) (bd_le hpx.1.2 (by decide))) vX4_partAlong lX7_217 rfl rfl xi82 rfl ?_
    refine q_lret dX7_toldNumber_50 rfl ?_
    refine ⟨_, rfl, ?_, _, rfl, h83⟩
    unfold tnF
    rw [← ht]
theorem sc_r {l : Int} (hL : 0 ≤ l ∧ l < 3) (x : Int) : scX (104 + 2 * l) x = false := by
  rcases (by omega : l = 0 ∨ l = 1 ∨ l = 2) with rfl | rfl | rfl <;> rfl
theorem sc_r1 {l : Int} (hL : 0 ≤ l ∧ l < 3) (x : Int) : scX (104 + 2 * l + 1) x = false := by
  rcases (by omega : l = 0 ∨ l = 1 ∨ l = 2) with rfl | rfl | rfl <;> rfl
theorem zO_holdsNothing (σ s : q_S) (l : Int) (hL : 0 ≤ l ∧ l < 3) : q_Ct mX5_holdsNothing shX [.inr (.inr (104 + 2 * l))] (ov σ s) (fun r σ' => r = some (.inl (if σ (104 + 2 * l) 1 < 0 then 1 else 0)) ∧ σ' = ov σ s) := by
  have h := zX5_holdsNothing (104 + 2 * l) (ov σ s) (rowN l hL)
  rw [ov_n (sc_r hL 1)] at h
  exact h
theorem zO_hasPlace (σ s : q_S) (l i : Int) (hL : 0 ≤ l ∧ l < 3) : q_Ct mX5_hasPlace shX [.inr (.inr (104 + 2 * l)), .inl i] (ov σ s) (fun r σ' => r = some (.inl (if 0 ≤ i ∧ i < σ (104 + 2 * l) 1 then 1 else 0)) ∧ σ' = ov σ s) := by
  have h := zX5_hasPlace (104 + 2 * l) i (ov σ s) (rowN l hL)
  rw [ov_n (sc_r hL 1)] at h
  exact h
theorem IX_row {σ : q_S} {l : Int} {g : Int → Int} (hI : IX σ) (hL : 0 ≤ l ∧ l < 3) : IX (q_row σ (104 + 2 * l + 1) g) := by
  obtain ⟨h1, h2, h3, h4, h5, h6, h7⟩ := hI
  have e : ∀ c : Int, c < 104 → q_row σ (104 + 2 * l + 1) g c = σ c := fun c hc => q_row_o (by omega)
  unfold IX
  rw [e 1 (by decide), e 2 (by decide), e 3 (by decide), e 4 (by decide), e 5 (by decide), e 6 (by decide), e 7 (by decide), e 8 (by decide), e 91 (by decide), e 92 (by decide), e 0 (by decide)]
  refine ⟨h1, h2, h3, h4, h5, h6, fun k a b => ?_⟩
  rw [q_row_o (by omega)]
  exact h7 k a b
def fJudge (F nt nv : Int) (f xs ys as os h : Int → Int) (g : Int → Int → Int) (v l p : Int) : Int := if ¬ (0 ≤ v ∧ v < nv) ∨ ¬ (0 ≤ l ∧ l < 3) ∨ p < 0 then -1 else if h l < 0 then -11 else if ¬ balb f nt (as v) (os v) = true then -5 else jgL (tnF f F (xs v) (ys v) (mF (as v) (os v) nt)) (g l) p (h l) (4 * mC (as v) (os v) nt).toNat 0
theorem dv4 {i : Int} (h : 0 ≤ i ∧ i < 16) : q_w (i.tdiv 4) = i / 4 := dv_i ⟨h.1, by omega⟩ (by decide)
set_option maxRecDepth 100000 in
theorem lpX7_jg (σ : q_S) (v l p : Int) (hI : IX σ) (hv : 0 ≤ v ∧ v < σ 1 2) (hb : balb (σ 2) (σ 1 1) (σ 6 v) (σ 7 v) = true) (hL : 0 ≤ l ∧ l < 3) (hp : 0 ≤ p ∧ p < 2147483648) (hsz : σ (104 + 2 * l) 1 ≤ 24) (hc : mC (σ 6 v) (σ 7 v) (σ 1 1) ≤ 4) : ∀ (n : Nat) (i : Int) (s : q_S), (n : Int) + i = 4 * (mC (σ 6 v) (σ 7 v) (σ 1 1)) → 0 ≤ i → (∀ j, 0 ≤ j → j < mC (σ 6 v) (σ 7 v) (σ 1 1) → s 83 j = mF (σ 6 v) (σ 7 v) (σ 1 1) j) → q_WP mX7_judge shX 73 [some (.inr (.inr 0)), some (.inl v), some (.inl l), some (.inl p), some (.inr (.inr (104 + 2 * l))), some (.inl (4 * (mC (σ 6 v) (σ 7 v) (σ 1 1)))), some (.inl i)] [] (ov σ s) (fun r σ' => r = some (.inl (jgL (tnF (σ 2) (σ 1 0) (σ 4 v) (σ 5 v) (mF (σ 6 v) (σ 7 v) (σ 1 1))) (σ (104 + 2 * l + 1)) p (σ (104 + 2 * l) 1) n i)) ∧ ∃ s', σ' = ov σ s') := by
  intro n
  induction n with
  | zero =>
    intro i s hi h0 hm
    refine q_iload (n := 75) dX7_judge_73 rfl rfl ?_
    refine q_iload (n := 77) dX7_judge_75 rfl rfl ?_
    refine q_icmp_ge (n := 80) (t := 132) dX7_judge_77 rfl (by decide) (fun h77 => ?_) (fun h77 => ?_)
    · skip
      refine q_bipush (n := 134) dX7_judge_132 rfl (k := ?_)
      refine q_iret dX7_judge_134 rfl (fun _ => rfl) ?_
      exact ⟨rfl, _, rfl⟩
    · exact absurd h77 (by omega)
  | succ n ih =>
    intro i s hi h0 hm
    have hpi := pi_w (sz := σ (104 + 2 * l) 1) hp (i := i) ⟨h0, by omega⟩ hsz
    have hpe := pi_e (sz := σ (104 + 2 * l) 1) hp (i := i) ⟨h0, by omega⟩ hsz
    refine q_iload (n := 75) dX7_judge_73 rfl rfl ?_
    refine q_iload (n := 77) dX7_judge_75 rfl rfl ?_
    refine q_icmp_ge (n := 80) (t := 132) dX7_judge_77 rfl (by decide) (fun h77 => ?_) (fun h77 => ?_)
    · exact absurd h77 (by omega)
    · skip
      refine q_aload (n := 82) dX7_judge_80 rfl rfl ?_
      refine q_iload_n (n := 83) dX7_judge_82 rfl rfl ?_
      refine q_iload (n := 85) dX7_judge_83 rfl rfl ?_
      refine q_iadd (n := 86) dX7_judge_85 rfl ?_
      refine q_v1D (n := 89) dX7_judge_86 rfl (zO_hasPlace _ _ l _ hL) vX5_hasPlace lX7_320 rfl rfl (rowN l hL).1 rfl ?_
      refine q_if_ne (n := 92) (t := 100) dX7_judge_89 rfl (by decide) (fun h89 => ?_) (fun h89 => ?_)
      · have h89 := hpi.mp (q_b1.mp h89)
        have hq := hpe h89
        refine q_aload (n := 102) dX7_judge_100 rfl rfl ?_
        refine q_getR (n := 105) dX7_judge_102 rfl fX7_323 (rowN l hL).1 rfl ?_
        refine q_iload_n (n := 106) dX7_judge_105 rfl rfl ?_
        refine q_iload (n := 108) dX7_judge_106 rfl rfl ?_
        refine q_iadd (n := 109) dX7_judge_108 rfl ?_
        refine q_topI (p + i) hq ?_
        refine q_laloadE (σ (104 + 2 * l + 1) (p + i)) (n := 110) dX7_judge_109 rfl (rowN l hL).2 ⟨by omega, by omega⟩ (ov_n (sc_r1 hL _)) ?_
        refine q_aload_n (n := 111) dX7_judge_110 rfl rfl ?_
        refine q_iload_n (n := 112) dX7_judge_111 rfl rfl ?_
        refine q_iload (n := 114) dX7_judge_112 rfl rfl ?_
        refine q_v2 (n := 117) dX7_judge_114 rfl (zX7_toldNumber v i _ _ hI hv hb hm ⟨h0, by omega⟩) vX7_toldNumber lX7_331 rfl rfl xi0 rfl (fun v114 σ114 h114 => ?_)
        obtain ⟨rfl, s2, rfl, h83⟩ := h114
        · skip
          refine q_lcmp (n := 118) dX7_judge_117 rfl ?_
          refine q_if_eq (n := 121) (t := 126) dX7_judge_118 rfl (by decide) (fun h118 => ?_) (fun h118 => ?_)
          · have h118 := q_keqt.mp h118
            refine q_iinc (n := 129) dX7_judge_126 rfl (Nat.le_of_ble_eq_true rfl) rfl (q_nwid ⟨by omega, by omega⟩) (q_s1_s (q_s1_s (q_s1_s (q_s1_s (q_s1_s (q_s1_1 rfl)))))) ?_
            refine q_go (t := 73) dX7_judge_129 (by decide) ?_
            rw [jgL, if_neg (fun z => z h89), if_neg (fun z => z h118)]
            exact ih (i + 1) _ (by omega) (by omega) (fun j h1 h2 => by rw [h83]; exact hm j h1 h2)
          · have h118 := q_keqf.mp h118
            refine q_iload (n := 123) dX7_judge_121 rfl rfl ?_
            refine q_iconst (n := 124) dX7_judge_123 rfl (k := ?_)
            refine q_idiv (n := 125) dX7_judge_124 rfl (by omega) ?_
            refine q_topI (i / 4) (dv4 ⟨h0, by omega⟩) ?_
            refine q_iret dX7_judge_125 rfl (fun _ => rfl) ?_
            first
              | exact ⟨by rw [jgL, if_pos h89], _, rfl⟩
              | exact ⟨by rw [jgL, if_neg (fun z => z h89), if_pos h118], _, rfl⟩
      · have h89 := fun z => q_b0.mp h89 (hpi.mpr z)
        refine q_bipush (n := 94) dX7_judge_92 rfl (k := ?_)
        refine q_iload (n := 96) dX7_judge_94 rfl rfl ?_
        refine q_iconst (n := 97) dX7_judge_96 rfl (k := ?_)
        refine q_idiv (n := 98) dX7_judge_97 rfl (by omega) ?_
        refine q_topI (i / 4) (dv4 ⟨h0, by omega⟩) ?_
        refine q_iaddS (n := 99) dX7_judge_98 rfl ⟨by omega, by omega⟩ ?_
        refine q_iret dX7_judge_99 rfl (fun _ => rfl) ?_
        first
          | exact ⟨by rw [jgL, if_pos h89], _, rfl⟩
          | exact ⟨by rw [jgL, if_neg (fun z => z h89), if_pos h118], _, rfl⟩
set_option maxRecDepth 100000 in
theorem zX7_judge (v l p : Int) (σ s : q_S) (hI : IX σ) : q_Ct mX7_judge shX [.inr (.inr 0), .inl v, .inl l, .inl p] (ov σ s) (fun r σ' => r = some (.inl (fJudge (σ 1 0) (σ 1 1) (σ 1 2) (σ 2) (σ 4) (σ 5) (σ 6) (σ 7) (fun l => σ (104 + 2 * l) 1) (fun l => σ (104 + 2 * l + 1)) v l p)) ∧ ∃ s', σ' = ov σ s') := by
  refine q_ct 3 (by decide) rfl rfl ?_
  show q_WP mX7_judge shX 0 [some (.inr (.inr 0)), some (.inl v), some (.inl l), some (.inl p), none, none, none] [] (ov σ s) _
  refine q_know (fun _ _ hk => ?_)
  have hpp : q_i32 p := hk 3 (.inl p) rfl
  unfold q_i32 at hpp
  have hI0 := hI
  refine q_aload_n (n := 1) dX7_judge_0 rfl rfl ?_
  refine q_getR (n := 4) dX7_judge_1 rfl fX7_12 xi0 rfl ?_
  refine q_iload_n (n := 5) dX7_judge_4 rfl rfl ?_
  refine q_v1D (n := 8) dX7_judge_5 rfl (zO_hasVertex _ _ _) vX3_hasVertex lX7_135 rfl rfl xi1 rfl ?_
  refine q_if_eq (n := 11) (t := 22) dX7_judge_8 rfl (by decide) (fun h8 => ?_) (fun h8 => ?_)
  · have hv := q_b0.mp h8
    refine q_iconst (n := 23) dX7_judge_22 rfl (k := ?_)
    refine q_iret dX7_judge_23 rfl (fun _ => rfl) ?_
    refine ⟨congrArg some (congrArg Sum.inl (Eq.symm ?_)), _, rfl⟩
    unfold fJudge
    first
      | exact if_pos (by omega)
      | (rw [if_neg (by omega), if_pos h37]; done)
      | (rw [if_neg (by omega), if_neg h37, if_pos (fun z => h48 ⟨hv, z⟩)]; done)
  · have hv := q_b1.mp h8
    refine q_iload_n (n := 12) dX7_judge_11 rfl rfl ?_
    refine q_c1D (n := 15) dX7_judge_12 rfl (zX7_isList _ _) vX7_isList lX7_310 rfl rfl ?_
    refine q_if_eq (n := 18) (t := 22) dX7_judge_15 rfl (by decide) (fun h15 => ?_) (fun h15 => ?_)
    · have hL := q_b0.mp h15
      refine q_iconst (n := 23) dX7_judge_22 rfl (k := ?_)
      refine q_iret dX7_judge_23 rfl (fun _ => rfl) ?_
      refine ⟨congrArg some (congrArg Sum.inl (Eq.symm ?_)), _, rfl⟩
      unfold fJudge
      first
        | exact if_pos (by omega)
        | (rw [if_neg (by omega), if_pos h37]; done)
        | (rw [if_neg (by omega), if_neg h37, if_pos (fun z => h48 ⟨hv, z⟩)]; done)
    · have hL := q_b1.mp h15
      have hsz := hI.2.2.2.2.2.2 l hL.1 hL.2
      refine q_iload_n (n := 19) dX7_judge_18 rfl rfl ?_
      refine q_if_ge (n := 22) (t := 24) dX7_judge_19 rfl (by decide) (fun h19 => ?_) (fun h19 => ?_)
      · skip
        refine q_aload_n (n := 25) dX7_judge_24 rfl rfl ?_
        refine q_getR (n := 28) dX7_judge_25 rfl fX7_76 xi0 rfl ?_
        refine q_iload_n (n := 29) dX7_judge_28 rfl rfl ?_
        refine q_aaload (n := 30) dX7_judge_29 rfl xi95 (fun _ => rfl) ⟨by omega, by omega⟩ ?_
        refine q_astore (n := 32) dX7_judge_30 rfl (Nat.le_of_ble_eq_true rfl) (q_s1_s (q_s1_s (q_s1_s (q_s1_1 rfl)))) ?_
        refine q_aload (n := 34) dX7_judge_32 rfl rfl ?_
        refine q_v0D (n := 37) dX7_judge_34 rfl (zO_holdsNothing _ _ l hL) vX5_holdsNothing lX7_317 rfl rfl (rowN l hL).1 rfl ?_
        refine q_if_eq (n := 40) (t := 43) dX7_judge_37 rfl (by decide) (fun h37 => ?_) (fun h37 => ?_)
        · have h37 := q_b0.mp h37
          refine q_aload_n (n := 44) dX7_judge_43 rfl rfl ?_
          refine q_iload_n (n := 45) dX7_judge_44 rfl rfl ?_
          refine q_v1 (n := 48) dX7_judge_45 rfl (zX7_hasBalance v _ _ hI0) vX7_hasBalance lX7_224 rfl rfl xi0 rfl (fun v45 σ45 h45 => ?_)
          obtain ⟨rfl, s1, rfl⟩ := h45
          · skip
            refine q_if_ne (n := 51) (t := 54) dX7_judge_48 rfl (by decide) (fun h48 => ?_) (fun h48 => ?_)
            · have h48 := q_b1.mp h48
              have hb := h48.2
              have hvt := hI0.tie hv
              have hn := hI0.1.2.1
              have hc := mem_C hn hvt.2.2
              have hF9 := hI0.fd
              refine q_iconst (n := 55) dX7_judge_54 rfl (k := ?_)
              refine q_aload_n (n := 56) dX7_judge_55 rfl rfl ?_
              refine q_getR (n := 59) dX7_judge_56 rfl fX7_12 xi0 rfl ?_
              refine q_iload_n (n := 60) dX7_judge_59 rfl rfl ?_
              refine q_aload_n (n := 61) dX7_judge_60 rfl rfl ?_
              refine q_getR (n := 64) dX7_judge_61 rfl fX7_48 xi0 rfl ?_
              refine q_v2 (n := 67) dX7_judge_64 rfl (zC_members _ _ v hI0 hv) vX3_membersOf lX7_327 rfl rfl xi1 rfl (fun v64 σ64 h64 => ?_)
              obtain ⟨rfl, s2, rfl, hm, ho⟩ := h64
              · skip
                refine q_imulS (n := 68) dX7_judge_67 rfl ⟨by omega, by omega⟩ ?_
                refine q_istore (n := 70) dX7_judge_68 rfl (Nat.le_of_ble_eq_true rfl) (q_s1_s (q_s1_s (q_s1_s (q_s1_s (q_s1_1 rfl))))) ?_
                refine q_iconst (n := 71) dX7_judge_70 rfl (k := ?_)
                refine q_istore (n := 73) dX7_judge_71 rfl (Nat.le_of_ble_eq_true rfl) (q_s1_s (q_s1_s (q_s1_s (q_s1_s (q_s1_s (q_s1_1 rfl)))))) ?_
                have e : fJudge (σ 1 0) (σ 1 1) (σ 1 2) (σ 2) (σ 4) (σ 5) (σ 6) (σ 7) (fun l => σ (104 + 2 * l) 1) (fun l => σ (104 + 2 * l + 1)) v l p = jgL (tnF (σ 2) (σ 1 0) (σ 4 v) (σ 5 v) (mF (σ 6 v) (σ 7 v) (σ 1 1))) (σ (104 + 2 * l + 1)) p (σ (104 + 2 * l) 1) (4 * (mC (σ 6 v) (σ 7 v) (σ 1 1))).toNat 0 := by
                  unfold fJudge
                  rw [if_neg (by omega), if_neg h37, if_neg (fun z => z hb)]
                rw [e]
                exact lpX7_jg σ v l p hI hv hb hL ⟨by omega, by omega⟩ hsz.2 hc.1.2 (4 * (mC (σ 6 v) (σ 7 v) (σ 1 1))).toNat 0 _ (by omega) (by decide) hm
            · have h48 := q_b0.mp h48
              refine q_bipush (n := 53) dX7_judge_51 rfl (k := ?_)
              refine q_iret dX7_judge_53 rfl (fun _ => rfl) ?_
              refine ⟨congrArg some (congrArg Sum.inl (Eq.symm ?_)), _, rfl⟩
              unfold fJudge
              first
                | exact if_pos (by omega)
                | (rw [if_neg (by omega), if_pos h37]; done)
                | (rw [if_neg (by omega), if_neg h37, if_pos (fun z => h48 ⟨hv, z⟩)]; done)
        · have h37 := q_b1.mp h37
          refine q_bipush (n := 42) dX7_judge_40 rfl (k := ?_)
          refine q_iret dX7_judge_42 rfl (fun _ => rfl) ?_
          refine ⟨congrArg some (congrArg Sum.inl (Eq.symm ?_)), _, rfl⟩
          unfold fJudge
          first
            | exact if_pos (by omega)
            | (rw [if_neg (by omega), if_pos h37]; done)
            | (rw [if_neg (by omega), if_neg h37, if_pos (fun z => h48 ⟨hv, z⟩)]; done)
      · skip
        refine q_iconst (n := 23) dX7_judge_22 rfl (k := ?_)
        refine q_iret dX7_judge_23 rfl (fun _ => rfl) ?_
        refine ⟨congrArg some (congrArg Sum.inl (Eq.symm ?_)), _, rfl⟩
        unfold fJudge
        first
          | exact if_pos (by omega)
          | (rw [if_neg (by omega), if_pos h37]; done)
          | (rw [if_neg (by omega), if_neg h37, if_pos (fun z => h48 ⟨hv, z⟩)]; done)
set_option maxHeartbeats 1000000 in
set_option maxRecDepth 100000 in
theorem lpX7_in (σ : q_S) (v l p : Int) (hI : IX σ) (hv : 0 ≤ v ∧ v < σ 1 2) (hb : balb (σ 2) (σ 1 1) (σ 6 v) (σ 7 v) = true) (hL : 0 ≤ l ∧ l < 3) (hp : 0 ≤ p ∧ p < 2147483648) (hsz : σ (104 + 2 * l) 1 ≤ 24) (hc : mC (σ 6 v) (σ 7 v) (σ 1 1) ≤ 4) : ∀ (n : Nat) (i : Int) (g : Int → Int) (s : q_S), (n : Int) + i = 4 * (mC (σ 6 v) (σ 7 v) (σ 1 1)) → 0 ≤ i → (∀ j, 0 ≤ j → j < mC (σ 6 v) (σ 7 v) (σ 1 1) → s 83 j = mF (σ 6 v) (σ 7 v) (σ 1 1) j) → q_WP mX7_into shX 76 [some (.inr (.inr 0)), some (.inl v), some (.inl l), some (.inl p), some (.inr (.inr (104 + 2 * l))), some (.inl (4 * (mC (σ 6 v) (σ 7 v) (σ 1 1)))), some (.inl i)] [] (ov (q_row σ (104 + 2 * l + 1) g) s) (fun r σ' => ∃ z, r = some z ∧ (z = .inl (inL (tnF (σ 2) (σ 1 0) (σ 4 v) (σ 5 v) (mF (σ 6 v) (σ 7 v) (σ 1 1))) p (σ (104 + 2 * l) 1) n i g).1 ∧ ∃ s', σ' = ov (q_row σ (104 + 2 * l + 1) (inL (tnF (σ 2) (σ 1 0) (σ 4 v) (σ 5 v) (mF (σ 6 v) (σ 7 v) (σ 1 1))) p (σ (104 + 2 * l) 1) n i g).2) s')) := by
  intro n
  induction n with
  | zero =>
    intro i g s hi h0 hm
    refine q_iload (n := 78) dX7_into_76 rfl rfl ?_
    refine q_iload (n := 80) dX7_into_78 rfl rfl ?_
    refine q_icmp_ge (n := 83) (t := 118) dX7_into_80 rfl (by decide) (fun h80 => ?_) (fun h80 => ?_)
    · skip
      refine q_iload (n := 120) dX7_into_118 rfl rfl ?_
      refine q_iret dX7_into_120 rfl (fun _ => rfl) ?_
      exact ⟨_, rfl, rfl, _, rfl⟩
    · exact absurd h80 (by omega)
  | succ n ih =>
    intro i g s hi h0 hm
    have hpi := pi_w (sz := σ (104 + 2 * l) 1) hp (i := i) ⟨h0, by omega⟩ hsz
    have hpe := pi_e (sz := σ (104 + 2 * l) 1) hp (i := i) ⟨h0, by omega⟩ hsz
    have e0 : ∀ c : Int, c ≠ 104 + 2 * l + 1 → q_row σ (104 + 2 * l + 1) g c = σ c := fun c hc => q_row_o hc
    have htn := fun (s : q_S) (hm : (∀ j, 0 ≤ j → j < mC (σ 6 v) (σ 7 v) (σ 1 1) → s 83 j = mF (σ 6 v) (σ 7 v) (σ 1 1) j)) => zX7_toldNumber v i (q_row σ (104 + 2 * l + 1) g) s (IX_row hI hL) (by rw [e0 1 (by omega)]; exact hv) (by rw [e0 1 (by omega), e0 2 (by omega), e0 6 (by omega), e0 7 (by omega)]; exact hb) (by rw [e0 1 (by omega), e0 6 (by omega), e0 7 (by omega)]; exact hm) (by rw [e0 1 (by omega), e0 6 (by omega), e0 7 (by omega)]; exact ⟨h0, by omega⟩)
    rw [e0 1 (by omega), e0 2 (by omega), e0 4 (by omega), e0 5 (by omega), e0 6 (by omega), e0 7 (by omega)] at htn
    have hhp := fun (s : q_S) (i : Int) => zO_hasPlace (q_row σ (104 + 2 * l + 1) g) s l i hL
    rw [e0 (104 + 2 * l) (by omega)] at hhp
    refine q_iload (n := 78) dX7_into_76 rfl rfl ?_
    refine q_iload (n := 80) dX7_into_78 rfl rfl ?_
    refine q_icmp_ge (n := 83) (t := 118) dX7_into_80 rfl (by decide) (fun h80 => ?_) (fun h80 => ?_)
    · exact absurd h80 (by omega)
    · skip
      refine q_aload (n := 85) dX7_into_83 rfl rfl ?_
      refine q_iload_n (n := 86) dX7_into_85 rfl rfl ?_
      refine q_iload (n := 88) dX7_into_86 rfl rfl ?_
      refine q_iadd (n := 89) dX7_into_88 rfl ?_
      refine q_v1D (n := 92) dX7_into_89 rfl (hhp _ _) vX5_hasPlace lX7_320 rfl rfl (rowN l hL).1 rfl ?_
      refine q_if_eq (n := 95) (t := 118) dX7_into_92 rfl (by decide) (fun h92 => ?_) (fun h92 => ?_)
      · have h92 := fun z => q_b0.mp h92 (hpi.mpr z)
        refine q_iload (n := 120) dX7_into_118 rfl rfl ?_
        refine q_iret dX7_into_120 rfl (fun _ => rfl) ?_
        exact ⟨_, rfl, by rw [inL, if_neg h92], _, by rw [inL, if_neg h92]⟩
      · have h92 := hpi.mp (q_b1.mp h92)
        have hq := hpe h92
        refine q_aload (n := 97) dX7_into_95 rfl rfl ?_
        refine q_getR (n := 100) dX7_into_97 rfl fX7_323 (rowN l hL).1 rfl ?_
        refine q_iload_n (n := 101) dX7_into_100 rfl rfl ?_
        refine q_iload (n := 103) dX7_into_101 rfl rfl ?_
        refine q_iadd (n := 104) dX7_into_103 rfl ?_
        refine q_topI (p + i) hq ?_
        refine q_aload_n (n := 105) dX7_into_104 rfl rfl ?_
        refine q_iload_n (n := 106) dX7_into_105 rfl rfl ?_
        refine q_iload (n := 108) dX7_into_106 rfl rfl ?_
        refine q_v2 (n := 111) dX7_into_108 rfl (htn _ hm) vX7_toldNumber lX7_331 rfl rfl xi0 rfl (fun v108 σ108 h108 => ?_)
        obtain ⟨rfl, s2, rfl, h83⟩ := h108
        · skip
          refine q_lastore (n := 112) dX7_into_111 rfl (rowN l hL).2 ⟨by omega, by omega⟩ ?_
          refine q_iinc (n := 115) dX7_into_112 rfl (Nat.le_of_ble_eq_true rfl) rfl (q_nwid ⟨by omega, by omega⟩) (q_s1_s (q_s1_s (q_s1_s (q_s1_s (q_s1_s (q_s1_1 rfl)))))) ?_
          refine q_go (t := 76) dX7_into_115 (by decide) ?_
          rw [ov_upn (sc_r1 hL _), q_row_up, inL, if_pos h92]
          exact ih (i + 1) _ _ (by omega) (by omega) (fun j h1 h2 => by rw [h83]; exact hm j h1 h2)
set_option maxRecDepth 100000 in
theorem zX7_into (v l p : Int) (σ s : q_S) (hI : IX σ) : q_Ct mX7_into shX [.inr (.inr 0), .inl v, .inl l, .inl p] (ov σ s) (fun r σ' => ∃ v_, r = some v_ ∧ ((¬ (0 ≤ v ∧ v < σ 1 2) ∨ ¬ (0 ≤ l ∧ l < 3)) ∧ v_ = .inl (-1) ∧ (∃ s', σ' = ov σ s') ∨ ((0 ≤ v ∧ v < σ 1 2) ∧ (0 ≤ l ∧ l < 3) ∧ σ (104 + 2 * l) 1 < 0) ∧ v_ = .inl (-11) ∧ (∃ s', σ' = ov σ s') ∨ ((0 ≤ v ∧ v < σ 1 2) ∧ (0 ≤ l ∧ l < 3) ∧ ¬ σ (104 + 2 * l) 1 < 0 ∧ p < 0) ∧ v_ = .inl (-13) ∧ (∃ s', σ' = ov σ s') ∨ ((0 ≤ v ∧ v < σ 1 2) ∧ (0 ≤ l ∧ l < 3) ∧ ¬ σ (104 + 2 * l) 1 < 0 ∧ ¬ p < 0 ∧ ¬ balb (σ 2) (σ 1 1) (σ 6 v) (σ 7 v) = true) ∧ v_ = .inl (-2) ∧ (∃ s', σ' = ov σ s') ∨ ((0 ≤ v ∧ v < σ 1 2) ∧ (0 ≤ l ∧ l < 3) ∧ ¬ σ (104 + 2 * l) 1 < 0 ∧ ¬ p < 0 ∧ balb (σ 2) (σ 1 1) (σ 6 v) (σ 7 v) = true) ∧ v_ = .inl (inL (tnF (σ 2) (σ 1 0) (σ 4 v) (σ 5 v) (mF (σ 6 v) (σ 7 v) (σ 1 1))) p (σ (104 + 2 * l) 1) (4 * (mC (σ 6 v) (σ 7 v) (σ 1 1))).toNat 0 (σ (104 + 2 * l + 1))).1 ∧ ∃ s', σ' = ov (q_row σ (104 + 2 * l + 1) (inL (tnF (σ 2) (σ 1 0) (σ 4 v) (σ 5 v) (mF (σ 6 v) (σ 7 v) (σ 1 1))) p (σ (104 + 2 * l) 1) (4 * (mC (σ 6 v) (σ 7 v) (σ 1 1))).toNat 0 (σ (104 + 2 * l + 1))).2) s')) := by
  refine q_ct 3 (by decide) rfl rfl ?_
  show q_WP mX7_into shX 0 [some (.inr (.inr 0)), some (.inl v), some (.inl l), some (.inl p), none, none, none] [] (ov σ s) _
  refine q_know (fun _ _ hk => ?_)
  have hpp : q_i32 p := hk 3 (.inl p) rfl
  unfold q_i32 at hpp
  have hI0 := hI
  refine q_aload_n (n := 1) dX7_into_0 rfl rfl ?_
  refine q_getR (n := 4) dX7_into_1 rfl fX7_12 xi0 rfl ?_
  refine q_iload_n (n := 5) dX7_into_4 rfl rfl ?_
  refine q_v1D (n := 8) dX7_into_5 rfl (zO_hasVertex _ _ _) vX3_hasVertex lX7_135 rfl rfl xi1 rfl ?_
  refine q_if_eq (n := 11) (t := 18) dX7_into_8 rfl (by decide) (fun h8 => ?_) (fun h8 => ?_)
  · have hv := q_b0.mp h8
    refine q_iconst (n := 19) dX7_into_18 rfl (k := ?_)
    refine q_iret dX7_into_19 rfl (fun _ => rfl) ?_
    first
      | exact ⟨_, rfl, Or.inl ⟨Or.inl hv, rfl, _, rfl⟩⟩
      | exact ⟨_, rfl, Or.inl ⟨Or.inr hL, rfl, _, rfl⟩⟩
      | exact ⟨_, rfl, Or.inr (Or.inl ⟨⟨hv, hL, h33⟩, rfl, _, rfl⟩)⟩
      | exact ⟨_, rfl, Or.inr (Or.inr (Or.inl ⟨⟨hv, hL, h33, by omega⟩, rfl, _, rfl⟩))⟩
      | exact ⟨_, rfl, Or.inr (Or.inr (Or.inr (Or.inl ⟨⟨hv, hL, h33, by omega, fun z => h51 ⟨hv, z⟩⟩, rfl, _, rfl⟩)))⟩
  · have hv := q_b1.mp h8
    refine q_iload_n (n := 12) dX7_into_11 rfl rfl ?_
    refine q_c1D (n := 15) dX7_into_12 rfl (zX7_isList _ _) vX7_isList lX7_310 rfl rfl ?_
    refine q_if_ne (n := 18) (t := 20) dX7_into_15 rfl (by decide) (fun h15 => ?_) (fun h15 => ?_)
    · have hL := q_b1.mp h15
      have hsz := hI.2.2.2.2.2.2 l hL.1 hL.2
      refine q_aload_n (n := 21) dX7_into_20 rfl rfl ?_
      refine q_getR (n := 24) dX7_into_21 rfl fX7_76 xi0 rfl ?_
      refine q_iload_n (n := 25) dX7_into_24 rfl rfl ?_
      refine q_aaload (n := 26) dX7_into_25 rfl xi95 (fun _ => rfl) ⟨by omega, by omega⟩ ?_
      refine q_astore (n := 28) dX7_into_26 rfl (Nat.le_of_ble_eq_true rfl) (q_s1_s (q_s1_s (q_s1_s (q_s1_1 rfl)))) ?_
      refine q_aload (n := 30) dX7_into_28 rfl rfl ?_
      refine q_v0D (n := 33) dX7_into_30 rfl (zO_holdsNothing _ _ l hL) vX5_holdsNothing lX7_317 rfl rfl (rowN l hL).1 rfl ?_
      refine q_if_eq (n := 36) (t := 39) dX7_into_33 rfl (by decide) (fun h33 => ?_) (fun h33 => ?_)
      · have h33 := q_b0.mp h33
        refine q_iload_n (n := 40) dX7_into_39 rfl rfl ?_
        refine q_if_ge (n := 43) (t := 46) dX7_into_40 rfl (by decide) (fun h40 => ?_) (fun h40 => ?_)
        · skip
          refine q_aload_n (n := 47) dX7_into_46 rfl rfl ?_
          refine q_iload_n (n := 48) dX7_into_47 rfl rfl ?_
          refine q_v1 (n := 51) dX7_into_48 rfl (zX7_hasBalance v _ _ hI0) vX7_hasBalance lX7_224 rfl rfl xi0 rfl (fun v48 σ48 h48 => ?_)
          obtain ⟨rfl, s1, rfl⟩ := h48
          · skip
            refine q_if_ne (n := 54) (t := 57) dX7_into_51 rfl (by decide) (fun h51 => ?_) (fun h51 => ?_)
            · have h51 := q_b1.mp h51
              have hb := h51.2
              have hvt := hI0.tie hv
              have hn := hI0.1.2.1
              have hc := mem_C hn hvt.2.2
              have hF9 := hI0.fd
              refine q_iconst (n := 58) dX7_into_57 rfl (k := ?_)
              refine q_aload_n (n := 59) dX7_into_58 rfl rfl ?_
              refine q_getR (n := 62) dX7_into_59 rfl fX7_12 xi0 rfl ?_
              refine q_iload_n (n := 63) dX7_into_62 rfl rfl ?_
              refine q_aload_n (n := 64) dX7_into_63 rfl rfl ?_
              refine q_getR (n := 67) dX7_into_64 rfl fX7_48 xi0 rfl ?_
              refine q_v2 (n := 70) dX7_into_67 rfl (zC_members _ _ v hI0 hv) vX3_membersOf lX7_327 rfl rfl xi1 rfl (fun v67 σ67 h67 => ?_)
              obtain ⟨rfl, s2, rfl, hm, ho⟩ := h67
              · skip
                refine q_imulS (n := 71) dX7_into_70 rfl ⟨by omega, by omega⟩ ?_
                refine q_istore (n := 73) dX7_into_71 rfl (Nat.le_of_ble_eq_true rfl) (q_s1_s (q_s1_s (q_s1_s (q_s1_s (q_s1_1 rfl))))) ?_
                refine q_iconst (n := 74) dX7_into_73 rfl (k := ?_)
                refine q_istore (n := 76) dX7_into_74 rfl (Nat.le_of_ble_eq_true rfl) (q_s1_s (q_s1_s (q_s1_s (q_s1_s (q_s1_s (q_s1_1 rfl)))))) ?_
                refine q_cut _ _ (ov (q_row σ (104 + 2 * l + 1) (σ (104 + 2 * l + 1))) s2) rfl rfl (by rw [q_row_0]) ?_
                refine (lpX7_in σ v l p hI hv hb hL ⟨by omega, by omega⟩ hsz.2 hc.1.2 (4 * (mC (σ 6 v) (σ 7 v) (σ 1 1))).toNat 0 _ _ (by omega) (by decide) hm).imp ?_
                rintro r σ2 ⟨z, h1, h2, h3⟩
                exact ⟨z, h1, Or.inr (Or.inr (Or.inr (Or.inr ⟨⟨hv, hL, by omega, by omega, hb⟩, h2, h3⟩)))⟩
            · have h51 := q_b0.mp h51
              refine q_bipush (n := 56) dX7_into_54 rfl (k := ?_)
              refine q_iret dX7_into_56 rfl (fun _ => rfl) ?_
              first
                | exact ⟨_, rfl, Or.inl ⟨Or.inl hv, rfl, _, rfl⟩⟩
                | exact ⟨_, rfl, Or.inl ⟨Or.inr hL, rfl, _, rfl⟩⟩
                | exact ⟨_, rfl, Or.inr (Or.inl ⟨⟨hv, hL, h33⟩, rfl, _, rfl⟩)⟩
                | exact ⟨_, rfl, Or.inr (Or.inr (Or.inl ⟨⟨hv, hL, h33, by omega⟩, rfl, _, rfl⟩))⟩
                | exact ⟨_, rfl, Or.inr (Or.inr (Or.inr (Or.inl ⟨⟨hv, hL, h33, by omega, fun z => h51 ⟨hv, z⟩⟩, rfl, _, rfl⟩)))⟩
        · skip
          refine q_bipush (n := 45) dX7_into_43 rfl (k := ?_)
          refine q_iret dX7_into_45 rfl (fun _ => rfl) ?_
          first
            | exact ⟨_, rfl, Or.inl ⟨Or.inl hv, rfl, _, rfl⟩⟩
            | exact ⟨_, rfl, Or.inl ⟨Or.inr hL, rfl, _, rfl⟩⟩
            | exact ⟨_, rfl, Or.inr (Or.inl ⟨⟨hv, hL, h33⟩, rfl, _, rfl⟩)⟩
            | exact ⟨_, rfl, Or.inr (Or.inr (Or.inl ⟨⟨hv, hL, h33, by omega⟩, rfl, _, rfl⟩))⟩
            | exact ⟨_, rfl, Or.inr (Or.inr (Or.inr (Or.inl ⟨⟨hv, hL, h33, by omega, fun z => h51 ⟨hv, z⟩⟩, rfl, _, rfl⟩)))⟩
      · have h33 := q_b1.mp h33
        refine q_bipush (n := 38) dX7_into_36 rfl (k := ?_)
        refine q_iret dX7_into_38 rfl (fun _ => rfl) ?_
        first
          | exact ⟨_, rfl, Or.inl ⟨Or.inl hv, rfl, _, rfl⟩⟩
          | exact ⟨_, rfl, Or.inl ⟨Or.inr hL, rfl, _, rfl⟩⟩
          | exact ⟨_, rfl, Or.inr (Or.inl ⟨⟨hv, hL, h33⟩, rfl, _, rfl⟩)⟩
          | exact ⟨_, rfl, Or.inr (Or.inr (Or.inl ⟨⟨hv, hL, h33, by omega⟩, rfl, _, rfl⟩))⟩
          | exact ⟨_, rfl, Or.inr (Or.inr (Or.inr (Or.inl ⟨⟨hv, hL, h33, by omega, fun z => h51 ⟨hv, z⟩⟩, rfl, _, rfl⟩)))⟩
    · have hL := q_b0.mp h15
      refine q_iconst (n := 19) dX7_into_18 rfl (k := ?_)
      refine q_iret dX7_into_19 rfl (fun _ => rfl) ?_
      first
        | exact ⟨_, rfl, Or.inl ⟨Or.inl hv, rfl, _, rfl⟩⟩
        | exact ⟨_, rfl, Or.inl ⟨Or.inr hL, rfl, _, rfl⟩⟩
        | exact ⟨_, rfl, Or.inr (Or.inl ⟨⟨hv, hL, h33⟩, rfl, _, rfl⟩)⟩
        | exact ⟨_, rfl, Or.inr (Or.inr (Or.inl ⟨⟨hv, hL, h33, by omega⟩, rfl, _, rfl⟩))⟩
        | exact ⟨_, rfl, Or.inr (Or.inr (Or.inr (Or.inl ⟨⟨hv, hL, h33, by omega, fun z => h51 ⟨hv, z⟩⟩, rfl, _, rfl⟩)))⟩
