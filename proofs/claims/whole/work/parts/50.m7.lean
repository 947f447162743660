theorem root_u {a b v : Int} (ha : 0 ≤ a) (h1 : a * a ≤ v) (h2 : v < (a + 1) * (a + 1)) (hb : 0 ≤ b) (h3 : b * b ≤ v) (h4 : v < (b + 1) * (b + 1)) : a = b := by
  by_cases h : a < b
  · have := Int.mul_le_mul (show a + 1 ≤ b by omega) (show a + 1 ≤ b by omega) (by omega) hb
    omega
  · by_cases h' : b < a
    · have := Int.mul_le_mul (show b + 1 ≤ a by omega) (show b + 1 ≤ a by omega) (by omega) ha
      omega
    · omega
def unL (kd g : Int → Int) : Nat → Int → Int → Int
  | 0, _, k => k
  | n + 1, i, k => unL kd g n (i + 1) (if kd (g i) = 12 then k + 1 else k)
theorem unL_ge {kd g : Int → Int} : ∀ (n : Nat) (i k : Int), k ≤ unL kd g n i k ∧ unL kd g n i k ≤ k + n := by
  intro n
  induction n with
  | zero => intro i k; simp [unL]
  | succ n ih =>
    intro i k
    rw [unL]
    have := ih (i + 1) (if kd (g i) = 12 then k + 1 else k)
    split at this <;> split <;> first | omega | (exfalso; contradiction)
theorem unL_tl {kd g : Int → Int} : ∀ (n : Nat) (i k : Int), unL kd g n i k = k ↔ tlL kd g n i = true := by
  intro n
  induction n with
  | zero => intro i k; exact ⟨fun _ => rfl, fun _ => rfl⟩
  | succ n ih =>
    intro i k
    rw [unL, tlL]
    by_cases h : kd (g i) = 12
    · rw [if_pos h, if_pos h]
      have := unL_ge (kd := kd) (g := g) n (i + 1) (k + 1)
      exact ⟨fun z => by omega, fun z => by cases z⟩
    · rw [if_neg h, if_neg h]
      exact ih (i + 1) k
theorem akL_k {f kd g : Int → Int} {a : Int} : ∀ (n : Nat) (i : Int) (A : q_A5), (akL f kd a g n i A).2.2.2.2 = unL kd g n i A.2.2.2.2 := by
  intro n
  induction n with
  | zero => intro i A; rfl
  | succ n ih =>
    intro i A
    rw [akL, unL, ih]
    congr 1
    unfold akS
    by_cases h : kd (g i) = 12
    · rw [if_pos h, if_pos h]
      rfl
    · rw [if_neg h, if_neg h]
set_option maxRecDepth 100000 in
theorem lpX8_ro (sh : q_H) (σ : q_S) (v : Int) (hv : 0 ≤ v ∧ v ≤ 4000000000000000000) : ∀ (n : Nat) (l h : Int) (o6 : Option q_V), h - l ≤ n → (0 ≤ l ∧ l < h ∧ h ≤ 3000000000) → l * l ≤ v → v < h * h → q_WP mX8_root sh 7 [some (.inr (.inl v)), none, some (.inr (.inl l)), none, some (.inr (.inl h)), none, o6, none] [] σ (fun r σ' => r = some (.inr (.inl (rt v))) ∧ σ' = σ) := by
  have hrt := rt_ok hv
  intro n
  induction n with
  | zero =>
    intro l h o6 hn hlh h1 h2
    exact absurd hn (by omega)
  | succ n ih =>
    intro l h o6 hn hlh h1 h2
    refine q_lload (n := 9) dX8_root_7 rfl rfl ?_
    refine q_lload_n (n := 10) dX8_root_9 rfl rfl ?_
    refine q_lsubS (n := 11) dX8_root_10 rfl (by unfold q_i64; omega) ?_
    refine q_lconst (x := 1) (n := 12) dX8_root_11 rfl (k := ?_)
    refine q_lcmp (n := 13) dX8_root_12 rfl ?_
    refine q_if_le (n := 16) (t := 49) dX8_root_13 rfl (by decide) (fun h13 => ?_) (fun h13 => ?_)
    · have h13 := q_klet.mp h13
      refine q_lload_n (n := 50) dX8_root_49 rfl rfl ?_
      refine q_lret dX8_root_50 rfl ?_
      have e : l = rt v := root_u (by omega) h1 (by have e2 : h = l + 1 := by omega
                                                    rw [← e2]; exact h2) hrt.1 hrt.2.1 hrt.2.2
      exact ⟨by rw [e], rfl⟩
    · have h13 := q_klef.mp h13
      refine q_lload_n (n := 17) dX8_root_16 rfl rfl ?_
      refine q_lload (n := 19) dX8_root_17 rfl rfl ?_
      refine q_laddS (n := 20) dX8_root_19 rfl (by unfold q_i64; omega) ?_
      refine q_ldc2 (x := 2) (n := 23) dX8_root_20 rfl kX8_113 (k := ?_)
      have hmid : l < (l + h) / 2 ∧ (l + h) / 2 < h := by omega
      have hmb : q_bd ((l + h) / 2) 3000000000 := ⟨by omega, by omega⟩
      refine q_ldiv (n := 24) dX8_root_23 rfl (by omega) ?_
      have b97_ := hmb
      refine q_topJ ((l + h) / 2) (by rw [Int.tdiv_eq_ediv_of_nonneg (by omega)]; exact q_W_id ⟨by omega, by omega⟩) ?_
      refine q_lstore (n := 26) dX8_root_24 rfl (Nat.le_of_ble_eq_true rfl) (q_s2_s (q_s2_s (q_s2_s (q_s2_s (q_s2_s (q_s2_1 rfl)))))) ?_
      refine q_lload (n := 28) dX8_root_26 rfl rfl ?_
      refine q_lload (n := 30) dX8_root_28 rfl rfl ?_
      have b98_ := bd_mul (C := 9000000000000000000) b97_ b97_ (by decide)
      refine q_lmulS (n := 31) dX8_root_30 rfl (bd_64 b98_ (by decide)) ?_
      refine q_lload_n (n := 32) dX8_root_31 rfl rfl ?_
      refine q_lcmp (n := 33) dX8_root_32 rfl ?_
      refine q_if_gt (n := 36) (t := 42) dX8_root_33 rfl (by decide) (fun h33 => ?_) (fun h33 => ?_)
      · have h33 := q_kgtt.mp h33
        refine q_lload (n := 44) dX8_root_42 rfl rfl ?_
        refine q_lstore (n := 46) dX8_root_44 rfl (Nat.le_of_ble_eq_true rfl) (q_s2_s (q_s2_s (q_s2_s (q_s2_1 rfl)))) ?_
        refine q_go (t := 7) dX8_root_46 (by decide) ?_
        first
          | exact ih _ _ _ (by omega) (by omega) h33 h2
          | exact ih _ _ _ (by omega) (by omega) h1 h33
      · have h33 := q_kgtf.mp h33
        refine q_lload (n := 38) dX8_root_36 rfl rfl ?_
        refine q_lstore_n (n := 39) dX8_root_38 rfl (Nat.le_of_ble_eq_true rfl) (q_s2_s (q_s2_1 rfl)) ?_
        refine q_go (t := 46) dX8_root_39 (by decide) ?_
        refine q_go (t := 7) dX8_root_46 (by decide) ?_
        first
          | exact ih _ _ _ (by omega) (by omega) h33 h2
          | exact ih _ _ _ (by omega) (by omega) h1 h33
set_option maxRecDepth 100000 in
theorem zX8_root (sh : q_H) (v : Int) (σ : q_S) (hv : 0 ≤ v ∧ v ≤ 4000000000000000000) : q_Ct mX8_root sh [.inr (.inl v)] σ (fun r σ' => r = some (.inr (.inl (rt v))) ∧ σ' = σ) := by
  refine q_ct 6 (by decide) rfl rfl ?_
  show q_WP mX8_root sh 0 [some (.inr (.inl v)), none, none, none, none, none, none, none] [] σ _
  refine q_lconst (x := 0) (n := 1) dX8_root_0 rfl (k := ?_)
  refine q_lstore_n (n := 2) dX8_root_1 rfl (Nat.le_of_ble_eq_true rfl) (q_s2_s (q_s2_1 rfl)) ?_
  refine q_ldc2 (x := 3000000000) (n := 5) dX8_root_2 rfl kX8_297 (k := ?_)
  refine q_lstore (n := 7) dX8_root_5 rfl (Nat.le_of_ble_eq_true rfl) (q_s2_s (q_s2_s (q_s2_s (q_s2_1 rfl)))) ?_
  exact lpX8_ro sh σ v hv 3000000000 0 3000000000 none (by decide) (by decide) (by omega) (by have : (3000000000 : Int) * 3000000000 = 9000000000000000000 := (by decide); omega)
set_option maxRecDepth 100000 in
theorem zX8_energyOf (t x y k : Int) (σ s : q_S) (hI : IM σ) (ht : 0 ≤ t ∧ t < σ 1 1) (hB : lB (pM (σ 1) 2) (6 * t) ≠ 0) (hx : q_bd x 20) (hy : q_bd y 20) (hk : 0 ≤ k ∧ k < 12) : q_Ct mX8_energyOf shM [.inr (.inr 0), .inl t, .inl x, .inl y, .inl k] (ovM σ s) (fun r σ' => ∃ z, r = some z ∧ (z = .inr (.inl (engy (pM (σ 1) 2) (σ 1 0) x y t k)) ∧ ∃ s', σ' = ovM σ s' ∧ ∀ c x : Int, ¬ (c = 0 ∧ 10 ≤ x ∧ x ≤ 14) → s' c x = s c x)) := by
  refine q_ct 0 (by decide) rfl rfl ?_
  show q_WP mX8_energyOf shM 0 [some (.inr (.inr 0)), some (.inl t), some (.inl x), some (.inl y), some (.inl k)] [] (ovM σ s) _
  have hg := hI.pt ht
  have hq := hI.fq
  have hub := un_bd hg hB
  have hpx := pXY_div hg hB hq hx hy
  have hst := stren_bd hpx.2.1 hpx.2.2
  have hms := (hI.2.2.1 k hk.1 hk.2).2.2.1
  have hmb := mss_bd hk
  have hmm := bd_mul hmb hmb (C := 14400) (by decide)
  have hm0 := sq0 (mss k)
  unfold q_bd at hmm
  refine q_aload_n (n := 1) dX8_energyOf_0 rfl rfl ?_
  refine q_iload_n (n := 2) dX8_energyOf_1 rfl rfl ?_
  refine q_iload_n (n := 3) dX8_energyOf_2 rfl rfl ?_
  refine q_iload_n (n := 4) dX8_energyOf_3 rfl rfl ?_
  refine q_v3W (n := 7) dX8_energyOf_4 rfl (zX8_tellsPush t x y σ _ hI ht hB hx hy) vX8_tellsPush lX8_211 rfl rfl mi0 rfl (fun σ4 h4 => ?_)
  obtain ⟨s2, rfl, hps, hfr⟩ := h4
  · skip
    refine q_aload_n (n := 8) dX8_energyOf_7 rfl rfl ?_
    refine q_getR (n := 11) dX8_energyOf_8 rfl fX8_39 mi0 rfl ?_
    refine q_iload (n := 13) dX8_energyOf_11 rfl rfl ?_
    refine q_ialoadF (σ 6) (n := 14) dX8_energyOf_13 rfl mi6 ⟨by omega, by omega⟩ rfl ?_
    have b99_ := hmb
    rw [show (σ 6) k = mss k from hms]
    refine q_i2l (n := 15) dX8_energyOf_14 rfl ?_
    refine q_aload_n (n := 16) dX8_energyOf_15 rfl rfl ?_
    refine q_getR (n := 19) dX8_energyOf_16 rfl fX8_39 mi0 rfl ?_
    refine q_iload (n := 21) dX8_energyOf_19 rfl rfl ?_
    refine q_ialoadF (σ 6) (n := 22) dX8_energyOf_21 rfl mi6 ⟨by omega, by omega⟩ rfl ?_
    have b100_ := hmb
    rw [show (σ 6) k = mss k from hms]
    refine q_i2l (n := 23) dX8_energyOf_22 rfl ?_
    have b101_ := bd_mul (C := 14400) b99_ b100_ (by decide)
    refine q_lmulS (n := 24) dX8_energyOf_23 rfl (bd_64 b101_ (by decide)) ?_
    refine q_aload_n (n := 25) dX8_energyOf_24 rfl rfl ?_
    refine q_getJE (pX (pM (σ 1) 2) (σ 1 0) y t) (kI := 13) (n := 28) dX8_energyOf_25 rfl fX8_129 mi0 rfl rfl hps.1 ?_
    refine q_aload_n (n := 29) dX8_energyOf_28 rfl rfl ?_
    refine q_getJE (un (pM (σ 1) 2) t) (kI := 12) (n := 32) dX8_energyOf_29 rfl fX8_115 mi0 rfl rfl hps.2.2 ?_
    refine q_aload_n (n := 33) dX8_energyOf_32 rfl rfl ?_
    refine q_getJE (pY (pM (σ 1) 2) (σ 1 0) x t) (kI := 14) (n := 36) dX8_energyOf_33 rfl fX8_132 mi0 rfl rfl hps.2.1 ?_
    refine q_aload_n (n := 37) dX8_energyOf_36 rfl rfl ?_
    refine q_getJE (un (pM (σ 1) 2) t) (kI := 12) (n := 40) dX8_energyOf_37 rfl fX8_115 mi0 rfl rfl hps.2.2 ?_
    refine q_c4D (n := 43) dX8_energyOf_40 rfl (zX8_strength _ _ _ _ _ _ (by omega) (by omega) hpx.2.1 hpx.2.2) vX8_strength lX8_247 rfl rfl ?_
    refine q_laddS (n := 44) dX8_energyOf_43 rfl (show q_i64 (mss k * mss k + stren (pX (pM (σ 1) 2) (σ 1 0) y t) (pY (pM (σ 1) 2) (σ 1 0) x t) (un (pM (σ 1) 2) t)) from ⟨by omega, by omega⟩) ?_
    refine q_c1D (n := 47) dX8_energyOf_44 rfl (zX8_root _ (mss k * mss k + stren (pX (pM (σ 1) 2) (σ 1 0) y t) (pY (pM (σ 1) 2) (σ 1 0) x t) (un (pM (σ 1) 2) t)) _ ⟨by omega, by omega⟩) vX8_root lX8_299 rfl rfl ?_
    refine q_lret dX8_energyOf_47 rfl ?_
    exact ⟨_, rfl, rfl, s2, rfl, hfr⟩
set_option maxRecDepth 100000 in
theorem zX8_energy (t x y k : Int) (σ s : q_S) (hI : IM σ) : q_Ct mX8_energy shM [.inr (.inr 0), .inl t, .inl x, .inl y, .inl k] (ovM σ s) (fun r σ' => r = some (.inr (.inl (fEnergy (σ 1 0) (σ 1 1) (pM (σ 1) 2) t x y k))) ∧ ∃ s', σ' = ovM σ s') := by
  refine q_ct 0 (by decide) rfl rfl ?_
  show q_WP mX8_energy shM 0 [some (.inr (.inr 0)), some (.inl t), some (.inl x), some (.inl y), some (.inl k)] [] (ovM σ s) _
  have hn := hI.nt
  have hvv := hI.nv
  refine q_aload_n (n := 1) dX8_energy_0 rfl rfl ?_
  refine q_iload_n (n := 2) dX8_energy_1 rfl rfl ?_
  refine q_v1D (n := 5) dX8_energy_2 rfl (zX8_isTrack _ σ _ hn) vX8_isTrack lX8_156 rfl rfl mi0 rfl ?_
  refine q_if_eq (n := 8) (t := 42) dX8_energy_5 rfl (by decide) (fun h5 => ?_) (fun h5 => ?_)
  · have h5 := q_b0.mp h5
    refine q_ldc2 (x := -9223372036854775808) (n := 45) dX8_energy_42 rfl kX8_190 (k := ?_)
    refine q_lret dX8_energy_45 rfl ?_
    refine ⟨congrArg some (congrArg Sum.inr (congrArg Sum.inl (Eq.symm ?_))), _, rfl⟩
    unfold fEnergy
    have hpt := hasPb_t (nt := σ 1 1) (f := (pM (σ 1) 2)) (t := t) (x := x) (y := y)
    first
      | (rw [if_pos ⟨hpt.mpr ⟨⟨⟨h5, by omega⟩, hB⟩, h39⟩, by omega⟩]; done)
      | (refine if_neg (fun z => ?_)
         have z1 := hpt.mp z.1
         have z2 := z.2
         first
           | exact h39 z1.2
           | exact z1.1.2 hB
           | omega)
  · have h5 := q_b1.mp h5
    have hg := hI.pt h5
    refine q_iload_n (n := 9) dX8_energy_8 rfl rfl ?_
    refine q_iload_n (n := 10) dX8_energy_9 rfl rfl ?_
    refine q_c2D (n := 13) dX8_energy_10 rfl (zX8_isGrid _ _ _ _) vX8_isGrid lX8_144 rfl rfl ?_
    refine q_if_eq (n := 16) (t := 42) dX8_energy_13 rfl (by decide) (fun h13 => ?_) (fun h13 => ?_)
    · have h13 := q_b0.mp h13
      refine q_ldc2 (x := -9223372036854775808) (n := 45) dX8_energy_42 rfl kX8_190 (k := ?_)
      refine q_lret dX8_energy_45 rfl ?_
      refine ⟨congrArg some (congrArg Sum.inr (congrArg Sum.inl (Eq.symm ?_))), _, rfl⟩
      unfold fEnergy
      have hpt := hasPb_t (nt := σ 1 1) (f := (pM (σ 1) 2)) (t := t) (x := x) (y := y)
      first
        | (rw [if_pos ⟨hpt.mpr ⟨⟨⟨h5, by omega⟩, hB⟩, h39⟩, by omega⟩]; done)
        | (refine if_neg (fun z => ?_)
           have z1 := hpt.mp z.1
           have z2 := z.2
           first
             | exact h39 z1.2
             | exact z1.1.2 hB
             | omega)
    · have h13 := q_b1.mp h13
      refine q_iload (n := 18) dX8_energy_16 rfl rfl ?_
      refine q_c1D (n := 21) dX8_energy_18 rfl (zX8_isKind _ _ _) vX8_isKind lX8_90 rfl rfl ?_
      refine q_if_eq (n := 24) (t := 42) dX8_energy_21 rfl (by decide) (fun h21 => ?_) (fun h21 => ?_)
      · have h21 := q_b0.mp h21
        refine q_ldc2 (x := -9223372036854775808) (n := 45) dX8_energy_42 rfl kX8_190 (k := ?_)
        refine q_lret dX8_energy_45 rfl ?_
        refine ⟨congrArg some (congrArg Sum.inr (congrArg Sum.inl (Eq.symm ?_))), _, rfl⟩
        unfold fEnergy
        have hpt := hasPb_t (nt := σ 1 1) (f := (pM (σ 1) 2)) (t := t) (x := x) (y := y)
        first
          | (rw [if_pos ⟨hpt.mpr ⟨⟨⟨h5, by omega⟩, hB⟩, h39⟩, by omega⟩]; done)
          | (refine if_neg (fun z => ?_)
             have z1 := hpt.mp z.1
             have z2 := z.2
             first
               | exact h39 z1.2
               | exact z1.1.2 hB
               | omega)
      · have h21 := q_b1.mp h21
        refine q_aload_n (n := 25) dX8_energy_24 rfl rfl ?_
        refine q_iload_n (n := 26) dX8_energy_25 rfl rfl ?_
        refine q_v1D (n := 29) dX8_energy_26 rfl (zX8_turnOf _ σ _ hI (by omega)) vX8_turnOf lX8_109 rfl rfl mi0 rfl ?_
        refine q_if_eq (n := 32) (t := 42) dX8_energy_29 rfl (by decide) (fun h29 => ?_) (fun h29 => ?_)
        · have hB := sg_nz h29
          refine q_ldc2 (x := -9223372036854775808) (n := 45) dX8_energy_42 rfl kX8_190 (k := ?_)
          refine q_lret dX8_energy_45 rfl ?_
          refine ⟨congrArg some (congrArg Sum.inr (congrArg Sum.inl (Eq.symm ?_))), _, rfl⟩
          unfold fEnergy
          have hpt := hasPb_t (nt := σ 1 1) (f := (pM (σ 1) 2)) (t := t) (x := x) (y := y)
          first
            | (rw [if_pos ⟨hpt.mpr ⟨⟨⟨h5, by omega⟩, hB⟩, h39⟩, by omega⟩]; done)
            | (refine if_neg (fun z => ?_)
               have z1 := hpt.mp z.1
               have z2 := z.2
               first
                 | exact h39 z1.2
                 | exact z1.1.2 hB
                 | omega)
        · have hB := sg_z h29
          refine q_aload_n (n := 33) dX8_energy_32 rfl rfl ?_
          refine q_iload_n (n := 34) dX8_energy_33 rfl rfl ?_
          refine q_iload_n (n := 35) dX8_energy_34 rfl rfl ?_
          refine q_iload_n (n := 36) dX8_energy_35 rfl rfl ?_
          refine q_v3 (n := 39) dX8_energy_36 rfl (zX8_isOn t x y σ _ hI h5 ⟨by omega, by omega⟩ ⟨by omega, by omega⟩) vX8_isOn lX8_173 rfl rfl mi0 rfl (fun v36 σ36 h36 => ?_)
          obtain ⟨rfl, s36, rfl, hfr36⟩ := h36
          · skip
            refine q_if_ne (n := 42) (t := 46) dX8_energy_39 rfl (by decide) (fun h39 => ?_) (fun h39 => ?_)
            · have h39 := q_b1.mp h39
              refine q_aload_n (n := 47) dX8_energy_46 rfl rfl ?_
              refine q_iload_n (n := 48) dX8_energy_47 rfl rfl ?_
              refine q_iload_n (n := 49) dX8_energy_48 rfl rfl ?_
              refine q_iload_n (n := 50) dX8_energy_49 rfl rfl ?_
              refine q_iload (n := 52) dX8_energy_50 rfl rfl ?_
              refine q_v4 (n := 55) dX8_energy_52 rfl (zX8_energyOf t x y k σ _ hI h5 hB ⟨by omega, by omega⟩ ⟨by omega, by omega⟩ (by omega)) vX8_energyOf lX8_303 rfl rfl mi0 rfl (fun v52 σ52 h52 => ?_)
              obtain ⟨rfl, s9, rfl, _⟩ := h52
              · skip
                refine q_lret dX8_energy_55 rfl ?_
                refine ⟨congrArg some (congrArg Sum.inr (congrArg Sum.inl (Eq.symm ?_))), _, rfl⟩
                unfold fEnergy
                have hpt := hasPb_t (nt := σ 1 1) (f := (pM (σ 1) 2)) (t := t) (x := x) (y := y)
                first
                  | (rw [if_pos ⟨hpt.mpr ⟨⟨⟨h5, by omega⟩, hB⟩, h39⟩, by omega⟩]; done)
                  | (refine if_neg (fun z => ?_)
                     have z1 := hpt.mp z.1
                     have z2 := z.2
                     first
                       | exact h39 z1.2
                       | exact z1.1.2 hB
                       | omega)
            · have h39 := q_b0.mp h39
              refine q_ldc2 (x := -9223372036854775808) (n := 45) dX8_energy_42 rfl kX8_190 (k := ?_)
              refine q_lret dX8_energy_45 rfl ?_
              refine ⟨congrArg some (congrArg Sum.inr (congrArg Sum.inl (Eq.symm ?_))), _, rfl⟩
              unfold fEnergy
              have hpt := hasPb_t (nt := σ 1 1) (f := (pM (σ 1) 2)) (t := t) (x := x) (y := y)
              first
                | (rw [if_pos ⟨hpt.mpr ⟨⟨⟨h5, by omega⟩, hB⟩, h39⟩, by omega⟩]; done)
                | (refine if_neg (fun z => ?_)
                   have z1 := hpt.mp z.1
                   have z2 := z.2
                   first
                     | exact h39 z1.2
                     | exact z1.1.2 hB
                     | omega)
set_option maxRecDepth 100000 in
theorem lpX8_um (σ s : q_S) (v : Int) (hI : IM σ) (hv : 0 ≤ v ∧ v < σ 1 2) (hn : 0 ≤ σ 1 1 ∧ σ 1 1 ≤ 8) (hc : mC (pM (σ 1) 6 v) (pM (σ 1) 7 v) (σ 1 1) ≤ 4) (hm0 : s 0 16 = mC (pM (σ 1) 6 v) (pM (σ 1) 7 v) (σ 1 1)) (hm : ∀ j, 0 ≤ j → j < mC (pM (σ 1) 6 v) (pM (σ 1) 7 v) (σ 1 1) → s 9 j = mF (pM (σ 1) 6 v) (pM (σ 1) 7 v) (σ 1 1) j) : ∀ (n : Nat) (i k : Int), (n : Int) + i = mC (pM (σ 1) 6 v) (pM (σ 1) 7 v) (σ 1 1) → 0 ≤ i → 0 ≤ k → k ≤ i → q_WP mX8_untoldMany shM 9 [some (.inr (.inr 0)), some (.inl v), some (.inl k), some (.inl i)] [] (ovM σ s) (fun r σ' => ∃ z, r = some z ∧ (z = .inl (unL (pM (σ 1) 3) (mF (pM (σ 1) 6 v) (pM (σ 1) 7 v) (σ 1 1)) n i k) ∧ σ' = ovM σ s)) := by
  intro n
  induction n with
  | zero =>
    intro i k hi h0 hk0 hk
    refine q_iload_n (n := 10) dX8_untoldMany_9 rfl rfl ?_
    refine q_aload_n (n := 11) dX8_untoldMany_10 rfl rfl ?_
    refine q_getIE (mC (pM (σ 1) 6 v) (pM (σ 1) 7 v) (σ 1 1)) (kI := 16) (n := 14) (by decide) dX8_untoldMany_11 rfl fX8_218 mi0 rfl rfl hm0 ?_
    refine q_icmp_ge (n := 17) (t := 44) dX8_untoldMany_14 rfl (by decide) (fun h14 => ?_) (fun h14 => ?_)
    · skip
      refine q_iload_n (n := 45) dX8_untoldMany_44 rfl rfl ?_
      refine q_iret dX8_untoldMany_45 rfl (fun _ => rfl) ?_
      exact ⟨_, rfl, rfl, rfl⟩
    · exact absurd h14 (by omega)
  | succ n ih =>
    intro i k hi h0 hk0 hk
    have ht0 := hI.mem hv (j := i) ⟨h0, by omega⟩
    have hmi := hm i h0 (by omega)
    obtain ⟨t, ht⟩ : ∃ t, t = mF (pM (σ 1) 6 v) (pM (σ 1) 7 v) (σ 1 1) i := ⟨_, rfl⟩
    rw [← ht] at ht0 hmi
    have hkr := hI.2.1 t ht0.1 ht0.2
    have e3 : (pM (σ 1) 3) t = if σ 1 (51 + t) = -1 then 12 else σ 1 (51 + t) := rfl
    refine q_iload_n (n := 10) dX8_untoldMany_9 rfl rfl ?_
    refine q_aload_n (n := 11) dX8_untoldMany_10 rfl rfl ?_
    refine q_getIE (mC (pM (σ 1) 6 v) (pM (σ 1) 7 v) (σ 1 1)) (kI := 16) (n := 14) (by decide) dX8_untoldMany_11 rfl fX8_218 mi0 rfl rfl hm0 ?_
    refine q_icmp_ge (n := 17) (t := 44) dX8_untoldMany_14 rfl (by decide) (fun h14 => ?_) (fun h14 => ?_)
    · exact absurd h14 (by omega)
    · skip
      refine q_iload_n (n := 18) dX8_untoldMany_17 rfl rfl ?_
      refine q_aload_n (n := 19) dX8_untoldMany_18 rfl rfl ?_
      refine q_aload_n (n := 20) dX8_untoldMany_19 rfl rfl ?_
      refine q_getR (n := 23) dX8_untoldMany_20 rfl fX8_48 mi0 rfl ?_
      refine q_iload_n (n := 24) dX8_untoldMany_23 rfl rfl ?_
      refine q_ialoadE (t) (n := 25) dX8_untoldMany_24 rfl mi9 ⟨by omega, by omega⟩ hmi ?_
      refine q_v1D (n := 28) dX8_untoldMany_25 rfl (zX8_kindOf _ σ _ (by omega)) vX8_kindOf lX8_164 rfl rfl mi0 rfl ?_
      refine q_if_ge (n := 31) (t := 35) dX8_untoldMany_28 rfl (by decide) (fun h28 => ?_) (fun h28 => ?_)
      · skip
        refine q_iconst (n := 36) dX8_untoldMany_35 rfl (k := ?_)
        refine q_iaddS (n := 37) dX8_untoldMany_36 rfl ⟨by omega, by omega⟩ ?_
        refine q_istore_n (n := 38) dX8_untoldMany_37 rfl (Nat.le_of_ble_eq_true rfl) (q_s1_s (q_s1_1 rfl)) ?_
        refine q_iinc (n := 41) dX8_untoldMany_38 rfl (Nat.le_of_ble_eq_true rfl) rfl (q_nwid ⟨by omega, by omega⟩) (q_s1_s (q_s1_s (q_s1_1 rfl))) ?_
        refine q_go (t := 9) dX8_untoldMany_41 (by decide) ?_
        rw [unL, ← ht]
        first
          | (have e : ¬ (pM (σ 1) 3) t = 12 := by rw [e3, if_neg (by omega)]; omega
             rw [if_neg e]
             have h := ih (i + 1) (k + 0) (by omega) (by omega) (by omega) (by omega)
             rw [Int.add_zero] at h ⊢
             exact h)
          | (have e : (pM (σ 1) 3) t = 12 := by rw [e3, if_pos (by omega)]
             rw [if_pos e]
             exact ih _ _ (by omega) (by omega) (by omega) (by omega))
      · skip
        refine q_iconst (n := 32) dX8_untoldMany_31 rfl (k := ?_)
        refine q_go (t := 36) dX8_untoldMany_32 (by decide) ?_
        refine q_iaddS (n := 37) dX8_untoldMany_36 rfl ⟨by omega, by omega⟩ ?_
        refine q_istore_n (n := 38) dX8_untoldMany_37 rfl (Nat.le_of_ble_eq_true rfl) (q_s1_s (q_s1_1 rfl)) ?_
        refine q_iinc (n := 41) dX8_untoldMany_38 rfl (Nat.le_of_ble_eq_true rfl) rfl (q_nwid ⟨by omega, by omega⟩) (q_s1_s (q_s1_s (q_s1_1 rfl))) ?_
        refine q_go (t := 9) dX8_untoldMany_41 (by decide) ?_
        rw [unL, ← ht]
        first
          | (have e : ¬ (pM (σ 1) 3) t = 12 := by rw [e3, if_neg (by omega)]; omega
             rw [if_neg e]
             have h := ih (i + 1) (k + 0) (by omega) (by omega) (by omega) (by omega)
             rw [Int.add_zero] at h ⊢
             exact h)
          | (have e : (pM (σ 1) 3) t = 12 := by rw [e3, if_pos (by omega)]
             rw [if_pos e]
             exact ih _ _ (by omega) (by omega) (by omega) (by omega))
set_option maxRecDepth 100000 in
theorem zX8_untoldMany (v : Int) (σ s : q_S) (hI : IM σ) (hv : 0 ≤ v ∧ v < σ 1 2) : q_Ct mX8_untoldMany shM [.inr (.inr 0), .inl v] (ovM σ s) (fun r σ' => ∃ z, r = some z ∧ (z = .inl (unL (pM (σ 1) 3) (mF (pM (σ 1) 6 v) (pM (σ 1) 7 v) (σ 1 1)) (mC (pM (σ 1) 6 v) (pM (σ 1) 7 v) (σ 1 1)).toNat 0 0) ∧ ∃ s', σ' = ovM σ s')) := by
  refine q_ct 2 (by decide) rfl rfl ?_
  show q_WP mX8_untoldMany shM 0 [some (.inr (.inr 0)), some (.inl v), none, none] [] (ovM σ s) _
  have hn := hI.nt
  have hvv := hI.nv
  have hvt := hI.tie hv
  have hmc := mem_C hn hvt.2.2
  refine q_aload_n (n := 1) dX8_untoldMany_0 rfl rfl ?_
  refine q_iload_n (n := 2) dX8_untoldMany_1 rfl rfl ?_
  refine q_v1W (n := 5) dX8_untoldMany_2 rfl (zX8_tellsThose v σ _ hI hv) vX8_tellsThose lX8_221 rfl rfl mi0 rfl (fun σ2 h2 => ?_)
  obtain ⟨s1, rfl, ⟨hm0, hm⟩, hfr1⟩ := h2
  · skip
    refine q_iconst (n := 6) dX8_untoldMany_5 rfl (k := ?_)
    refine q_istore_n (n := 7) dX8_untoldMany_6 rfl (Nat.le_of_ble_eq_true rfl) (q_s1_s (q_s1_1 rfl)) ?_
    refine q_iconst (n := 8) dX8_untoldMany_7 rfl (k := ?_)
    refine q_istore_n (n := 9) dX8_untoldMany_8 rfl (Nat.le_of_ble_eq_true rfl) (q_s1_s (q_s1_s (q_s1_1 rfl))) ?_
    refine (lpX8_um σ s1 v hI hv hn hmc.1.2 hm0 hm (mC (pM (σ 1) 6 v) (pM (σ 1) 7 v) (σ 1 1)).toNat 0 0 (by omega) (by decide) (by decide) (by decide)).imp ?_
    rintro r σ2 ⟨z, h1, h2, h3⟩
    exact ⟨z, h1, h2, _, h3⟩
set_option maxRecDepth 100000 in
theorem zX8_isHot (v : Int) (σ s : q_S) (hI : IM σ) (hv : 0 ≤ v ∧ v < σ 1 2) : q_Ct mX8_isHot shM [.inr (.inr 0), .inl v] (ovM σ s) (fun r σ' => ∃ z, r = some z ∧ (z = .inl (if hotB (σ 1 1) (σ 1 2) (pM (σ 1) 2) (pM (σ 1) 3) (pM (σ 1) 6) (pM (σ 1) 7) v = true then 1 else 0) ∧ ∃ s', σ' = ovM σ s')) := by
  refine q_ct 0 (by decide) rfl rfl ?_
  show q_WP mX8_isHot shM 0 [some (.inr (.inr 0)), some (.inl v)] [] (ovM σ s) _
  have hn := hI.nt
  have hvv := hI.nv
  have hvt := hI.tie hv
  have hmc := mem_C hn hvt.2.2
  have ht1 := hvt.2.2.1
  have hun := unL_tl (kd := (pM (σ 1) 3)) (g := mF (pM (σ 1) 6 v) (pM (σ 1) 7 v) (σ 1 1)) (mC (pM (σ 1) 6 v) (pM (σ 1) 7 v) (σ 1 1)).toNat 0 0
  refine q_aload_n (n := 1) dX8_isHot_0 rfl rfl ?_
  refine q_iload_n (n := 2) dX8_isHot_1 rfl rfl ?_
  refine q_iconst (n := 3) dX8_isHot_2 rfl (k := ?_)
  refine q_v2D (n := 6) dX8_isHot_3 rfl (zX8_vP2 _ σ _ ⟨by omega, by omega⟩) vX8_vertexAt lX8_185 rfl rfl mi0 rfl ?_
  refine q_if_lt (n := 9) (t := 29) dX8_isHot_6 rfl (by decide) (fun h6 => ?_) (fun h6 => ?_)
  · skip
    refine q_iconst (n := 30) dX8_isHot_29 rfl (k := ?_)
    refine q_iret dX8_isHot_30 rfl (fun _ => rfl) ?_
    refine ⟨_, rfl, congrArg Sum.inl (Eq.symm ?_), _, rfl⟩
    first
      | exact if_pos (hotB_t.mpr ⟨⟨hv, h22⟩, by omega, hun.mp h14⟩)
      | exact if_neg (fun z => h22 (hotB_t.mp z).1.2)
      | exact if_neg (fun z => h14 (hun.mpr (hotB_t.mp z).2.2))
      | exact if_neg (fun z => absurd (hotB_t.mp z).2.1 (by omega))
  · skip
    refine q_aload_n (n := 10) dX8_isHot_9 rfl rfl ?_
    refine q_iload_n (n := 11) dX8_isHot_10 rfl rfl ?_
    refine q_v1 (n := 14) dX8_isHot_11 rfl (zX8_untoldMany v σ _ hI hv) vX8_untoldMany lX8_268 rfl rfl mi0 rfl (fun v11 σ11 h11 => ?_)
    obtain ⟨rfl, s11, rfl⟩ := h11
    · skip
      refine q_if_ne (n := 17) (t := 29) dX8_isHot_14 rfl (by decide) (fun h14 => ?_) (fun h14 => ?_)
      · skip
        refine q_iconst (n := 30) dX8_isHot_29 rfl (k := ?_)
        refine q_iret dX8_isHot_30 rfl (fun _ => rfl) ?_
        refine ⟨_, rfl, congrArg Sum.inl (Eq.symm ?_), _, rfl⟩
        first
          | exact if_pos (hotB_t.mpr ⟨⟨hv, h22⟩, by omega, hun.mp h14⟩)
          | exact if_neg (fun z => h22 (hotB_t.mp z).1.2)
          | exact if_neg (fun z => h14 (hun.mpr (hotB_t.mp z).2.2))
          | exact if_neg (fun z => absurd (hotB_t.mp z).2.1 (by omega))
      · skip
        refine q_aload_n (n := 18) dX8_isHot_17 rfl rfl ?_
        refine q_iload_n (n := 19) dX8_isHot_18 rfl rfl ?_
        refine q_v1 (n := 22) dX8_isHot_19 rfl (zX8_isBalanced v σ _ hI hv) vX8_isBalanced lX8_240 rfl rfl mi0 rfl (fun v19 σ19 h19 => ?_)
        obtain ⟨rfl, s19, rfl⟩ := h19
        · skip
          refine q_if_eq (n := 25) (t := 29) dX8_isHot_22 rfl (by decide) (fun h22 => ?_) (fun h22 => ?_)
          · have h22 := q_b0.mp h22
            refine q_iconst (n := 30) dX8_isHot_29 rfl (k := ?_)
            refine q_iret dX8_isHot_30 rfl (fun _ => rfl) ?_
            refine ⟨_, rfl, congrArg Sum.inl (Eq.symm ?_), _, rfl⟩
            first
              | exact if_pos (hotB_t.mpr ⟨⟨hv, h22⟩, by omega, hun.mp h14⟩)
              | exact if_neg (fun z => h22 (hotB_t.mp z).1.2)
              | exact if_neg (fun z => h14 (hun.mpr (hotB_t.mp z).2.2))
              | exact if_neg (fun z => absurd (hotB_t.mp z).2.1 (by omega))
          · have h22 := q_b1.mp h22
            refine q_iconst (n := 26) dX8_isHot_25 rfl (k := ?_)
            refine q_go (t := 30) dX8_isHot_26 (by decide) ?_
            refine q_iret dX8_isHot_30 rfl (fun _ => rfl) ?_
            refine ⟨_, rfl, congrArg Sum.inl (Eq.symm ?_), _, rfl⟩
            first
              | exact if_pos (hotB_t.mpr ⟨⟨hv, h22⟩, by omega, hun.mp h14⟩)
              | exact if_neg (fun z => h22 (hotB_t.mp z).1.2)
              | exact if_neg (fun z => h14 (hun.mpr (hotB_t.mp z).2.2))
              | exact if_neg (fun z => absurd (hotB_t.mp z).2.1 (by omega))
