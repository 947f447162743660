theorem or_0 {x : Int} (h : q_i32 x) : q_or x 0 = x := by
  unfold q_or
  have e : Int32.ofInt x ||| Int32.ofInt 0 = Int32.ofInt x := by
    have e0 : Int32.ofInt 0 = 0 := rfl
    rw [e0]
    exact Int32.or_zero
  rw [e]
  exact q_t32 h
theorem q_or_32 (x y : Int) : q_i32 (q_or x y) := q_in32 _
def onS (x : Int) : Nat → Int → Int → Int
  | 0, _, a => a
  | n + 1, k, a => onS x n (k + 1) (a + q_and (q_shr x k) 1)
theorem onS_popc {x : Int} (h : 0 ≤ x ∧ x < 256) : onS x 31 0 0 = popc x := by
  have h0 : ∀ k : Fin 256, onS (k.val : Int) 31 0 0 = popc (k.val : Int) := by decide +kernel
  have := h0 ⟨x.toNat, by omega⟩
  have e : ((x.toNat : Nat) : Int) = x := by omega
  simpa only [e] using this
theorem nbL_split {F : Int} : ∀ (n m : Nat) (i : Int), nbL F (n + m) i = nbL F n i + nbL F m (i + n) := by
  intro n
  induction n with
  | zero => intro m i; simp [nbL]
  | succ n ih =>
    intro m i
    rw [show n + 1 + m = (n + m) + 1 by omega, nbL, nbL, ih m (i + 1), show i + 1 + (n : Int) = i + ((n + 1 : Nat) : Int) by omega]
    omega
theorem nbL_none {F : Int} : ∀ (n : Nat) (i : Int), (∀ j, i ≤ j → j < i + n → ¬ q_and (q_shr F j) 1 = 1) → nbL F n i = 0 := by
  intro n
  induction n with
  | zero => intro i _; rfl
  | succ n ih =>
    intro i h
    rw [nbL, if_neg (h i (by omega) (by omega)), ih (i + 1) (fun j h1 h2 => h j (by omega) (by omega))]
    rfl
theorem nbL_cnt {F x y : Int} {f : Int → Int} : ∀ (n : Nat) (i k : Int), (∀ j, i ≤ j → j < i + n → (q_and (q_shr F j) 1 = 1 ↔ onb f j x y = true)) → cntL f x y n i k = k + nbL F n i := by
  intro n
  induction n with
  | zero => intro i k _; simp [cntL, nbL]
  | succ n ih =>
    intro i k h
    have h1 := h i (by omega) (by omega)
    rw [cntL, nbL, ih (i + 1) _ (fun j a b => h j (by omega) (by omega))]
    by_cases e : onb f i x y = true
    · rw [if_pos e, if_pos (h1.mpr e)]
      omega
    · rw [if_neg e, if_neg (fun z => e (h1.mp z))]
      omega
theorem cnt_popc {f : Int → Int} {nt x y : Int} (hn : 0 ≤ nt ∧ nt ≤ 8) : (0 ≤ fitL f x y nt.toNat 0 0 ∧ fitL f x y nt.toNat 0 0 < 256) ∧ popc (fitL f x y nt.toNat 0 0) = cntG nt f x y := by
  have hF := fitL_bit (f := f) (x := x) (y := y) nt.toNat 0 0 (by decide) (by omega) (by decide)
  have hz : ∀ j : Int, 0 ≤ j → j < 8 → ¬ q_and (q_shr 0 j) 1 = 1 := by
    intro j j0 j1
    rw [bit_tb (by decide) ⟨j0, j1⟩]
    simp
  refine ⟨hF.1, ?_⟩
  rw [← nbL_popc hF.1]
  have e8 : 8 = nt.toNat + (8 - nt.toNat) := by omega
  unfold cntG
  rw [nbL_cnt (F := fitL f x y nt.toNat 0 0) nt.toNat 0 0 (fun j a b => by
    rw [hF.2 j a (by omega)]
    exact ⟨fun z => z.elim (fun z => absurd z (hz j a (by omega))) (fun z => z.2), fun z => Or.inr ⟨⟨by omega, by omega⟩, z⟩⟩)]
  rw [show nbL (fitL f x y nt.toNat 0 0) 8 0 = nbL (fitL f x y nt.toNat 0 0) (nt.toNat + (8 - nt.toNat)) 0 by rw [← e8], nbL_split, nbL_none (8 - nt.toNat) _ (fun j a b => by
    rw [hF.2 j (by omega) (by omega)]
    intro z
    rcases z with z | z
    · exact hz j (by omega) (by omega) z
    · omega)]
  omega
def bq (a : Int × Int) : Int := if a.1 < 0 then 0 else 10000 * a.1 + a.2
theorem thY_ge {g : Int → Int → Int} {x : Int} : ∀ (n : Nat) (y : Int) (s : Int × Int), s.1 ≤ (thY g x n y s).1 := by
  intro n
  induction n with
  | zero => intro y s; exact Int.le_refl _
  | succ n ih =>
    intro y s
    rw [thY]
    have := ih (y + 1) (if s.1 < g x y then (g x y, 100 * (x + 20) + y + 20) else s)
    split at this <;> split <;> first | (dsimp only at this; omega) | omega | (exfalso; contradiction)
theorem thX_ge {g : Int → Int → Int} : ∀ (n : Nat) (x : Int) (s : Int × Int), s.1 ≤ (thX g n x s).1 := by
  intro n
  induction n with
  | zero => intro x s; exact Int.le_refl _
  | succ n ih =>
    intro x s
    rw [thX]
    have h1 := thY_ge (g := g) (x := x) 41 (-20) s
    have h2 := ih (x + 1) (thY g x 41 (-20) s)
    omega
theorem thX_0 {nt : Int} {f : Int → Int} : 0 ≤ (thX (cntG nt f) 41 (-20) (-1, 0)).1 := by
  rw [thX]
  have h1 := thX_ge (g := cntG nt f) 40 (-20 + 1) (thY (cntG nt f) (-20) 41 (-20) (-1, 0))
  have h2 : 0 ≤ (thY (cntG nt f) (-20) 41 (-20) (-1, 0)).1 := by
    rw [thY]
    have hc := (cntL_bd (f := f) (x := -20) (y := -20) nt.toNat 0 0).1
    have hc2 : 0 ≤ cntG nt f (-20) (-20) := hc
    rw [if_pos (by dsimp only; omega)]
    have := thY_ge (g := cntG nt f) (x := -20) 40 (-20 + 1) (cntG nt f (-20) (-20), 100 * (-20 + 20) + -20 + 20)
    dsimp only at this
    omega
  omega
set_option maxRecDepth 100000 in
theorem zX8_on (t x y : Int) (σ s : q_S) (hI : IM σ) : q_Ct mX8_on shM [.inr (.inr 0), .inl t, .inl x, .inl y] (ovM σ s) (fun r σ' => r = some (.inl (fOn (σ 1 1) (pM (σ 1) 2) t x y)) ∧ ∃ s', σ' = ovM σ s') := by
  refine q_ct 0 (by decide) rfl rfl ?_
  show q_WP mX8_on shM 0 [some (.inr (.inr 0)), some (.inl t), some (.inl x), some (.inl y)] [] (ovM σ s) _
  have hn := hI.nt
  have hvv := hI.nv
  refine q_aload_n (n := 1) dX8_on_0 rfl rfl ?_
  refine q_iload_n (n := 2) dX8_on_1 rfl rfl ?_
  refine q_v1D (n := 5) dX8_on_2 rfl (zX8_isTrack _ σ _ hn) vX8_isTrack lX8_156 rfl rfl mi0 rfl ?_
  refine q_if_eq (n := 8) (t := 16) dX8_on_5 rfl (by decide) (fun h5 => ?_) (fun h5 => ?_)
  · have h5 := q_b0.mp h5
    refine q_iconst (n := 17) dX8_on_16 rfl (k := ?_)
    refine q_iret dX8_on_17 rfl (fun _ => rfl) ?_
    refine ⟨congrArg some (congrArg Sum.inl (Eq.symm ?_)), _, rfl⟩
    unfold fOn
    first
      | exact if_pos (by omega)
      | (rw [if_neg (by omega)]; first | exact if_pos h25 | exact if_neg h25)
  · have h5 := q_b1.mp h5
    refine q_iload_n (n := 9) dX8_on_8 rfl rfl ?_
    refine q_iload_n (n := 10) dX8_on_9 rfl rfl ?_
    refine q_c2D (n := 13) dX8_on_10 rfl (zX8_isGrid _ _ _ _) vX8_isGrid lX8_144 rfl rfl ?_
    refine q_if_ne (n := 16) (t := 18) dX8_on_13 rfl (by decide) (fun h13 => ?_) (fun h13 => ?_)
    · have h13 := q_b1.mp h13
      refine q_aload_n (n := 19) dX8_on_18 rfl rfl ?_
      refine q_iload_n (n := 20) dX8_on_19 rfl rfl ?_
      refine q_iload_n (n := 21) dX8_on_20 rfl rfl ?_
      refine q_iload_n (n := 22) dX8_on_21 rfl rfl ?_
      refine q_v3 (n := 25) dX8_on_22 rfl (zX8_isOn t x y σ _ hI h5 ⟨by omega, by omega⟩ ⟨by omega, by omega⟩) vX8_isOn lX8_173 rfl rfl mi0 rfl (fun v22 σ22 h22 => ?_)
      obtain ⟨rfl, s22, rfl, hfr22⟩ := h22
      · skip
        refine q_if_eq (n := 28) (t := 32) dX8_on_25 rfl (by decide) (fun h25 => ?_) (fun h25 => ?_)
        · have h25 := q_b0.mp h25
          refine q_iconst (n := 33) dX8_on_32 rfl (k := ?_)
          refine q_iret dX8_on_33 rfl (fun _ => rfl) ?_
          refine ⟨congrArg some (congrArg Sum.inl (Eq.symm ?_)), _, rfl⟩
          unfold fOn
          first
            | exact if_pos (by omega)
            | (rw [if_neg (by omega)]; first | exact if_pos h25 | exact if_neg h25)
        · have h25 := q_b1.mp h25
          refine q_iconst (n := 29) dX8_on_28 rfl (k := ?_)
          refine q_go (t := 33) dX8_on_29 (by decide) ?_
          refine q_iret dX8_on_33 rfl (fun _ => rfl) ?_
          refine ⟨congrArg some (congrArg Sum.inl (Eq.symm ?_)), _, rfl⟩
          unfold fOn
          first
            | exact if_pos (by omega)
            | (rw [if_neg (by omega)]; first | exact if_pos h25 | exact if_neg h25)
    · have h13 := q_b0.mp h13
      refine q_iconst (n := 17) dX8_on_16 rfl (k := ?_)
      refine q_iret dX8_on_17 rfl (fun _ => rfl) ?_
      refine ⟨congrArg some (congrArg Sum.inl (Eq.symm ?_)), _, rfl⟩
      unfold fOn
      first
        | exact if_pos (by omega)
        | (rw [if_neg (by omega)]; first | exact if_pos h25 | exact if_neg h25)
set_option maxRecDepth 100000 in
theorem zX8_push (t x y a k : Int) (σ s : q_S) (hI : IM σ) : q_Ct mX8_push shM [.inr (.inr 0), .inl t, .inl x, .inl y, .inl a, .inl k] (ovM σ s) (fun r σ' => r = some (.inr (.inl (fPush (σ 1 0) (σ 1 1) (pM (σ 1) 2) t x y a k))) ∧ ∃ s', σ' = ovM σ s') := by
  refine q_ct 0 (by decide) rfl rfl ?_
  show q_WP mX8_push shM 0 [some (.inr (.inr 0)), some (.inl t), some (.inl x), some (.inl y), some (.inl a), some (.inl k)] [] (ovM σ s) _
  have hn := hI.nt
  have hvv := hI.nv
  have hq := hI.fq
  refine q_aload_n (n := 1) dX8_push_0 rfl rfl ?_
  refine q_iload_n (n := 2) dX8_push_1 rfl rfl ?_
  refine q_v1D (n := 5) dX8_push_2 rfl (zX8_isTrack _ σ _ hn) vX8_isTrack lX8_156 rfl rfl mi0 rfl ?_
  refine q_if_eq (n := 8) (t := 56) dX8_push_5 rfl (by decide) (fun h5 => ?_) (fun h5 => ?_)
  · have h5 := q_b0.mp h5
    refine q_ldc2 (x := -9223372036854775808) (n := 59) dX8_push_56 rfl kX8_190 (k := ?_)
    refine q_lret dX8_push_59 rfl ?_
    refine ⟨congrArg some (congrArg Sum.inr (congrArg Sum.inl (Eq.symm ?_))), _, rfl⟩
    unfold fPush
    have hpt := hasPb_t (nt := σ 1 1) (f := (pM (σ 1) 2)) (t := t) (x := x) (y := y)
    first
      | (rw [if_pos ⟨hpt.mpr ⟨⟨⟨h5, by omega⟩, hB⟩, h53⟩, by omega, by omega⟩]
         first
           | (rw [if_pos h69]; done)
           | (rw [if_neg h69]; done))
      | (refine if_neg (fun z => ?_)
         have z1 := hpt.mp z.1
         have z2 := z.2
         first
           | exact h53 z1.2
           | exact z1.1.2 hB
           | omega)
  · have h5 := q_b1.mp h5
    have hg := hI.pt h5
    refine q_iload_n (n := 9) dX8_push_8 rfl rfl ?_
    refine q_iload_n (n := 10) dX8_push_9 rfl rfl ?_
    refine q_c2D (n := 13) dX8_push_10 rfl (zX8_isGrid _ _ _ _) vX8_isGrid lX8_144 rfl rfl ?_
    refine q_if_eq (n := 16) (t := 56) dX8_push_13 rfl (by decide) (fun h13 => ?_) (fun h13 => ?_)
    · have h13 := q_b0.mp h13
      refine q_ldc2 (x := -9223372036854775808) (n := 59) dX8_push_56 rfl kX8_190 (k := ?_)
      refine q_lret dX8_push_59 rfl ?_
      refine ⟨congrArg some (congrArg Sum.inr (congrArg Sum.inl (Eq.symm ?_))), _, rfl⟩
      unfold fPush
      have hpt := hasPb_t (nt := σ 1 1) (f := (pM (σ 1) 2)) (t := t) (x := x) (y := y)
      first
        | (rw [if_pos ⟨hpt.mpr ⟨⟨⟨h5, by omega⟩, hB⟩, h53⟩, by omega, by omega⟩]
           first
             | (rw [if_pos h69]; done)
             | (rw [if_neg h69]; done))
        | (refine if_neg (fun z => ?_)
           have z1 := hpt.mp z.1
           have z2 := z.2
           first
             | exact h53 z1.2
             | exact z1.1.2 hB
             | omega)
    · have h13 := q_b1.mp h13
      refine q_iload (n := 18) dX8_push_16 rfl rfl ?_
      refine q_i2l (n := 19) dX8_push_18 rfl ?_
      refine q_lconst (x := 0) (n := 20) dX8_push_19 rfl (k := ?_)
      refine q_lconst (x := 1) (n := 21) dX8_push_20 rfl (k := ?_)
      refine q_c3D (n := 24) dX8_push_21 rfl (zX8_in _ _ _ _ _) vX8_in lX8_13 rfl rfl ?_
      refine q_if_eq (n := 27) (t := 56) dX8_push_24 rfl (by decide) (fun h24 => ?_) (fun h24 => ?_)
      · have h24 := q_b0.mp h24
        refine q_ldc2 (x := -9223372036854775808) (n := 59) dX8_push_56 rfl kX8_190 (k := ?_)
        refine q_lret dX8_push_59 rfl ?_
        refine ⟨congrArg some (congrArg Sum.inr (congrArg Sum.inl (Eq.symm ?_))), _, rfl⟩
        unfold fPush
        have hpt := hasPb_t (nt := σ 1 1) (f := (pM (σ 1) 2)) (t := t) (x := x) (y := y)
        first
          | (rw [if_pos ⟨hpt.mpr ⟨⟨⟨h5, by omega⟩, hB⟩, h53⟩, by omega, by omega⟩]
             first
               | (rw [if_pos h69]; done)
               | (rw [if_neg h69]; done))
          | (refine if_neg (fun z => ?_)
             have z1 := hpt.mp z.1
             have z2 := z.2
             first
               | exact h53 z1.2
               | exact z1.1.2 hB
               | omega)
      · have h24 := q_b1.mp h24
        refine q_iload (n := 29) dX8_push_27 rfl rfl ?_
        refine q_i2l (n := 30) dX8_push_29 rfl ?_
        refine q_lconst (x := 0) (n := 31) dX8_push_30 rfl (k := ?_)
        refine q_lconst (x := 1) (n := 32) dX8_push_31 rfl (k := ?_)
        refine q_c3D (n := 35) dX8_push_32 rfl (zX8_in _ _ _ _ _) vX8_in lX8_13 rfl rfl ?_
        refine q_if_eq (n := 38) (t := 56) dX8_push_35 rfl (by decide) (fun h35 => ?_) (fun h35 => ?_)
        · have h35 := q_b0.mp h35
          refine q_ldc2 (x := -9223372036854775808) (n := 59) dX8_push_56 rfl kX8_190 (k := ?_)
          refine q_lret dX8_push_59 rfl ?_
          refine ⟨congrArg some (congrArg Sum.inr (congrArg Sum.inl (Eq.symm ?_))), _, rfl⟩
          unfold fPush
          have hpt := hasPb_t (nt := σ 1 1) (f := (pM (σ 1) 2)) (t := t) (x := x) (y := y)
          first
            | (rw [if_pos ⟨hpt.mpr ⟨⟨⟨h5, by omega⟩, hB⟩, h53⟩, by omega, by omega⟩]
               first
                 | (rw [if_pos h69]; done)
                 | (rw [if_neg h69]; done))
            | (refine if_neg (fun z => ?_)
               have z1 := hpt.mp z.1
               have z2 := z.2
               first
                 | exact h53 z1.2
                 | exact z1.1.2 hB
                 | omega)
        · have h35 := q_b1.mp h35
          refine q_aload_n (n := 39) dX8_push_38 rfl rfl ?_
          refine q_iload_n (n := 40) dX8_push_39 rfl rfl ?_
          refine q_v1D (n := 43) dX8_push_40 rfl (zX8_turnOf _ σ _ hI (by omega)) vX8_turnOf lX8_109 rfl rfl mi0 rfl ?_
          refine q_if_eq (n := 46) (t := 56) dX8_push_43 rfl (by decide) (fun h43 => ?_) (fun h43 => ?_)
          · have hB := sg_nz h43
            refine q_ldc2 (x := -9223372036854775808) (n := 59) dX8_push_56 rfl kX8_190 (k := ?_)
            refine q_lret dX8_push_59 rfl ?_
            refine ⟨congrArg some (congrArg Sum.inr (congrArg Sum.inl (Eq.symm ?_))), _, rfl⟩
            unfold fPush
            have hpt := hasPb_t (nt := σ 1 1) (f := (pM (σ 1) 2)) (t := t) (x := x) (y := y)
            first
              | (rw [if_pos ⟨hpt.mpr ⟨⟨⟨h5, by omega⟩, hB⟩, h53⟩, by omega, by omega⟩]
                 first
                   | (rw [if_pos h69]; done)
                   | (rw [if_neg h69]; done))
              | (refine if_neg (fun z => ?_)
                 have z1 := hpt.mp z.1
                 have z2 := z.2
                 first
                   | exact h53 z1.2
                   | exact z1.1.2 hB
                   | omega)
          · have hB := sg_z h43
            refine q_aload_n (n := 47) dX8_push_46 rfl rfl ?_
            refine q_iload_n (n := 48) dX8_push_47 rfl rfl ?_
            refine q_iload_n (n := 49) dX8_push_48 rfl rfl ?_
            refine q_iload_n (n := 50) dX8_push_49 rfl rfl ?_
            refine q_v3 (n := 53) dX8_push_50 rfl (zX8_isOn t x y σ _ hI h5 ⟨by omega, by omega⟩ ⟨by omega, by omega⟩) vX8_isOn lX8_173 rfl rfl mi0 rfl (fun v50 σ50 h50 => ?_)
            obtain ⟨rfl, s50, rfl, hfr50⟩ := h50
            · skip
              refine q_if_ne (n := 56) (t := 60) dX8_push_53 rfl (by decide) (fun h53 => ?_) (fun h53 => ?_)
              · have h53 := q_b1.mp h53
                have hub := un_bd hg hB
                have hpx := pXY_div (x := x) (y := y) hg hB hq ⟨by omega, by omega⟩ ⟨by omega, by omega⟩
                refine q_aload_n (n := 61) dX8_push_60 rfl rfl ?_
                refine q_iload_n (n := 62) dX8_push_61 rfl rfl ?_
                refine q_iload_n (n := 63) dX8_push_62 rfl rfl ?_
                refine q_iload_n (n := 64) dX8_push_63 rfl rfl ?_
                refine q_v3W (n := 67) dX8_push_64 rfl (zX8_tellsPush t x y σ _ hI h5 hB ⟨by omega, by omega⟩ ⟨by omega, by omega⟩) vX8_tellsPush lX8_211 rfl rfl mi0 rfl (fun σ64 h64 => ?_)
                obtain ⟨s9, rfl, hps, hfr9⟩ := h64
                · skip
                  refine q_iload (n := 69) dX8_push_67 rfl rfl ?_
                  refine q_if_ne (n := 72) (t := 79) dX8_push_69 rfl (by decide) (fun h69 => ?_) (fun h69 => ?_)
                  · skip
                    refine q_aload_n (n := 80) dX8_push_79 rfl rfl ?_
                    refine q_getJE (pY (pM (σ 1) 2) (σ 1 0) x t) (kI := 14) (n := 83) dX8_push_80 rfl fX8_132 mi0 rfl rfl hps.2.1 ?_
                    refine q_aload_n (n := 84) dX8_push_83 rfl rfl ?_
                    refine q_getJE (un (pM (σ 1) 2) t) (kI := 12) (n := 87) dX8_push_84 rfl fX8_115 mi0 rfl rfl hps.2.2 ?_
                    refine q_iload (n := 89) dX8_push_87 rfl rfl ?_
                    refine q_c3D (n := 92) dX8_push_89 rfl (zX8_lowest _ _ _ _ _ (by have z := hpx.1.1; have z2 := hpx.1.2; unfold q_bd at z z2; omega) ⟨by omega, by omega⟩) vX8_lowest lX8_207 rfl rfl ?_
                    refine q_lret dX8_push_92 rfl ?_
                    refine ⟨congrArg some (congrArg Sum.inr (congrArg Sum.inl (Eq.symm ?_))), _, rfl⟩
                    unfold fPush
                    have hpt := hasPb_t (nt := σ 1 1) (f := (pM (σ 1) 2)) (t := t) (x := x) (y := y)
                    first
                      | (rw [if_pos ⟨hpt.mpr ⟨⟨⟨h5, by omega⟩, hB⟩, h53⟩, by omega, by omega⟩]
                         first
                           | (rw [if_pos h69]; done)
                           | (rw [if_neg h69]; done))
                      | (refine if_neg (fun z => ?_)
                         have z1 := hpt.mp z.1
                         have z2 := z.2
                         first
                           | exact h53 z1.2
                           | exact z1.1.2 hB
                           | omega)
                  · skip
                    refine q_aload_n (n := 73) dX8_push_72 rfl rfl ?_
                    refine q_getJE (pX (pM (σ 1) 2) (σ 1 0) y t) (kI := 13) (n := 76) dX8_push_73 rfl fX8_129 mi0 rfl rfl hps.1 ?_
                    refine q_go (t := 83) dX8_push_76 (by decide) ?_
                    refine q_aload_n (n := 84) dX8_push_83 rfl rfl ?_
                    refine q_getJE (un (pM (σ 1) 2) t) (kI := 12) (n := 87) dX8_push_84 rfl fX8_115 mi0 rfl rfl hps.2.2 ?_
                    refine q_iload (n := 89) dX8_push_87 rfl rfl ?_
                    refine q_c3D (n := 92) dX8_push_89 rfl (zX8_lowest _ _ _ _ _ (by have z := hpx.1.1; have z2 := hpx.1.2; unfold q_bd at z z2; omega) ⟨by omega, by omega⟩) vX8_lowest lX8_207 rfl rfl ?_
                    refine q_lret dX8_push_92 rfl ?_
                    refine ⟨congrArg some (congrArg Sum.inr (congrArg Sum.inl (Eq.symm ?_))), _, rfl⟩
                    unfold fPush
                    have hpt := hasPb_t (nt := σ 1 1) (f := (pM (σ 1) 2)) (t := t) (x := x) (y := y)
                    first
                      | (rw [if_pos ⟨hpt.mpr ⟨⟨⟨h5, by omega⟩, hB⟩, h53⟩, by omega, by omega⟩]
                         first
                           | (rw [if_pos h69]; done)
                           | (rw [if_neg h69]; done))
                      | (refine if_neg (fun z => ?_)
                         have z1 := hpt.mp z.1
                         have z2 := z.2
                         first
                           | exact h53 z1.2
                           | exact z1.1.2 hB
                           | omega)
              · have h53 := q_b0.mp h53
                refine q_ldc2 (x := -9223372036854775808) (n := 59) dX8_push_56 rfl kX8_190 (k := ?_)
                refine q_lret dX8_push_59 rfl ?_
                refine ⟨congrArg some (congrArg Sum.inr (congrArg Sum.inl (Eq.symm ?_))), _, rfl⟩
                unfold fPush
                have hpt := hasPb_t (nt := σ 1 1) (f := (pM (σ 1) 2)) (t := t) (x := x) (y := y)
                first
                  | (rw [if_pos ⟨hpt.mpr ⟨⟨⟨h5, by omega⟩, hB⟩, h53⟩, by omega, by omega⟩]
                     first
                       | (rw [if_pos h69]; done)
                       | (rw [if_neg h69]; done))
                  | (refine if_neg (fun z => ?_)
                     have z1 := hpt.mp z.1
                     have z2 := z.2
                     first
                       | exact h53 z1.2
                       | exact z1.1.2 hB
                       | omega)
set_option maxRecDepth 100000 in
theorem lpX8_fi (σ : q_S) (hI : IM σ) (x y : Int) (hx : -20 ≤ x ∧ x ≤ 20) (hy : -20 ≤ y ∧ y ≤ 20) (hn : 0 ≤ σ 1 1 ∧ σ 1 1 ≤ 8) : ∀ (n : Nat) (i b : Int) (s : q_S), (n : Int) + i = σ 1 1 → 0 ≤ i → q_i32 b → q_WP mX8_fitting shM 5 [some (.inr (.inr 0)), some (.inl x), some (.inl y), some (.inl b), some (.inl i)] [] (ovM σ s) (fun r σ' => ∃ z, r = some z ∧ (z = .inl (fitL (pM (σ 1) 2) x y n i b) ∧ ∃ s', σ' = ovM σ s' ∧ ∀ c x : Int, ¬ (c = 0 ∧ 10 ≤ x ∧ x ≤ 14) → s' c x = s c x)) := by
  intro n
  induction n with
  | zero =>
    intro i b s hi h0 hb
    refine q_iload (n := 7) dX8_fitting_5 rfl rfl ?_
    refine q_aload_n (n := 8) dX8_fitting_7 rfl rfl ?_
    refine q_getR (n := 11) dX8_fitting_8 rfl fX8_23 mi0 rfl ?_
    refine q_iconst (n := 12) dX8_fitting_11 rfl (k := ?_)
    refine q_ialoadF (σ 1) (n := 13) dX8_fitting_12 rfl mi1 ⟨by omega, by omega⟩ rfl ?_
    refine q_icmp_ge (n := 16) (t := 44) dX8_fitting_13 rfl (by decide) (fun h13 => ?_) (fun h13 => ?_)
    · skip
      refine q_iload_n (n := 45) dX8_fitting_44 rfl rfl ?_
      refine q_iret dX8_fitting_45 rfl (fun _ => rfl) ?_
      exact ⟨_, rfl, rfl, s, rfl, fun _ _ _ => rfl⟩
    · exact absurd h13 (by omega)
  | succ n ih =>
    intro i b s hi h0 hb
    refine q_iload (n := 7) dX8_fitting_5 rfl rfl ?_
    refine q_aload_n (n := 8) dX8_fitting_7 rfl rfl ?_
    refine q_getR (n := 11) dX8_fitting_8 rfl fX8_23 mi0 rfl ?_
    refine q_iconst (n := 12) dX8_fitting_11 rfl (k := ?_)
    refine q_ialoadF (σ 1) (n := 13) dX8_fitting_12 rfl mi1 ⟨by omega, by omega⟩ rfl ?_
    refine q_icmp_ge (n := 16) (t := 44) dX8_fitting_13 rfl (by decide) (fun h13 => ?_) (fun h13 => ?_)
    · exact absurd h13 (by omega)
    · skip
      refine q_iload_n (n := 17) dX8_fitting_16 rfl rfl ?_
      refine q_aload_n (n := 18) dX8_fitting_17 rfl rfl ?_
      refine q_iload (n := 20) dX8_fitting_18 rfl rfl ?_
      refine q_iload_n (n := 21) dX8_fitting_20 rfl rfl ?_
      refine q_iload_n (n := 22) dX8_fitting_21 rfl rfl ?_
      refine q_v3 (n := 25) dX8_fitting_22 rfl (zX8_isOn i x y σ _ hI ⟨h0, by omega⟩ ⟨by omega, by omega⟩ ⟨by omega, by omega⟩) vX8_isOn lX8_173 rfl rfl mi0 rfl (fun v22 σ22 h22 => ?_)
      obtain ⟨rfl, s22, rfl, hfr22⟩ := h22
      · skip
        refine q_if_eq (n := 28) (t := 35) dX8_fitting_25 rfl (by decide) (fun h25 => ?_) (fun h25 => ?_)
        · have h25 := q_b0.mp h25
          refine q_iconst (n := 36) dX8_fitting_35 rfl (k := ?_)
          refine q_ior (n := 37) dX8_fitting_36 rfl ?_
          refine q_istore_n (n := 38) dX8_fitting_37 rfl (Nat.le_of_ble_eq_true rfl) (q_s1_s (q_s1_s (q_s1_1 rfl))) ?_
          refine q_iinc (n := 41) dX8_fitting_38 rfl (Nat.le_of_ble_eq_true rfl) rfl (q_nwid ⟨by omega, by omega⟩) (q_s1_s (q_s1_s (q_s1_s (q_s1_1 rfl)))) ?_
          refine q_go (t := 5) dX8_fitting_41 (by decide) ?_
          first
            | (rw [or_0 hb, fitL, if_neg h25]
               refine (ih (i + 1) b s22 (by omega) (by omega) hb).imp ?_
               rintro r σ2 ⟨z, z1, z2, s3, z3, z4⟩
               exact ⟨z, z1, z2, s3, z3, fun c x hc => by rw [z4 c x hc]; exact hfr22 c x hc⟩)
            | (rw [fitL, if_pos h25]
               refine (ih (i + 1) _ s22 (by omega) (by omega) (q_or_32 _ _)).imp ?_
               rintro r σ2 ⟨z, z1, z2, s3, z3, z4⟩
               exact ⟨z, z1, z2, s3, z3, fun c x hc => by rw [z4 c x hc]; exact hfr22 c x hc⟩)
        · have h25 := q_b1.mp h25
          refine q_iconst (n := 29) dX8_fitting_28 rfl (k := ?_)
          refine q_iload (n := 31) dX8_fitting_29 rfl rfl ?_
          refine q_ishl (n := 32) dX8_fitting_31 rfl ?_
          refine q_go (t := 36) dX8_fitting_32 (by decide) ?_
          refine q_ior (n := 37) dX8_fitting_36 rfl ?_
          refine q_istore_n (n := 38) dX8_fitting_37 rfl (Nat.le_of_ble_eq_true rfl) (q_s1_s (q_s1_s (q_s1_1 rfl))) ?_
          refine q_iinc (n := 41) dX8_fitting_38 rfl (Nat.le_of_ble_eq_true rfl) rfl (q_nwid ⟨by omega, by omega⟩) (q_s1_s (q_s1_s (q_s1_s (q_s1_1 rfl)))) ?_
          refine q_go (t := 5) dX8_fitting_41 (by decide) ?_
          first
            | (rw [or_0 hb, fitL, if_neg h25]
               refine (ih (i + 1) b s22 (by omega) (by omega) hb).imp ?_
               rintro r σ2 ⟨z, z1, z2, s3, z3, z4⟩
               exact ⟨z, z1, z2, s3, z3, fun c x hc => by rw [z4 c x hc]; exact hfr22 c x hc⟩)
            | (rw [fitL, if_pos h25]
               refine (ih (i + 1) _ s22 (by omega) (by omega) (q_or_32 _ _)).imp ?_
               rintro r σ2 ⟨z, z1, z2, s3, z3, z4⟩
               exact ⟨z, z1, z2, s3, z3, fun c x hc => by rw [z4 c x hc]; exact hfr22 c x hc⟩)
set_option maxRecDepth 100000 in
theorem zX8_fitting (x y : Int) (σ s : q_S) (hI : IM σ) (hx : -20 ≤ x ∧ x ≤ 20) (hy : -20 ≤ y ∧ y ≤ 20) : q_Ct mX8_fitting shM [.inr (.inr 0), .inl x, .inl y] (ovM σ s) (fun r σ' => ∃ z, r = some z ∧ (z = .inl (fitL (pM (σ 1) 2) x y (σ 1 1).toNat 0 0) ∧ ∃ s', σ' = ovM σ s' ∧ ∀ c x : Int, ¬ (c = 0 ∧ 10 ≤ x ∧ x ≤ 14) → s' c x = s c x)) := by
  refine q_ct 2 (by decide) rfl rfl ?_
  show q_WP mX8_fitting shM 0 [some (.inr (.inr 0)), some (.inl x), some (.inl y), none, none] [] (ovM σ s) _
  have hn := hI.nt
  have hvv := hI.nv
  refine q_iconst (n := 1) dX8_fitting_0 rfl (k := ?_)
  refine q_istore_n (n := 2) dX8_fitting_1 rfl (Nat.le_of_ble_eq_true rfl) (q_s1_s (q_s1_s (q_s1_1 rfl))) ?_
  refine q_iconst (n := 3) dX8_fitting_2 rfl (k := ?_)
  refine q_istore (n := 5) dX8_fitting_3 rfl (Nat.le_of_ble_eq_true rfl) (q_s1_s (q_s1_s (q_s1_s (q_s1_1 rfl)))) ?_
  exact lpX8_fi σ hI x y hx hy hn (σ 1 1).toNat 0 0 s (by omega) (by decide) q_0
set_option maxRecDepth 100000 in
theorem zX8_fits (x y : Int) (σ s : q_S) (hI : IM σ) : q_Ct mX8_fits shM [.inr (.inr 0), .inl x, .inl y] (ovM σ s) (fun r σ' => r = some (.inl (fFits (σ 1 1) (pM (σ 1) 2) x y)) ∧ ∃ s', σ' = ovM σ s') := by
  refine q_ct 0 (by decide) rfl rfl ?_
  show q_WP mX8_fits shM 0 [some (.inr (.inr 0)), some (.inl x), some (.inl y)] [] (ovM σ s) _
  refine q_iload_n (n := 1) dX8_fits_0 rfl rfl ?_
  refine q_iload_n (n := 2) dX8_fits_1 rfl rfl ?_
  refine q_c2D (n := 5) dX8_fits_2 rfl (zX8_isGrid _ _ _ _) vX8_isGrid lX8_144 rfl rfl ?_
  refine q_if_eq (n := 8) (t := 17) dX8_fits_5 rfl (by decide) (fun h5 => ?_) (fun h5 => ?_)
  · have h5 := q_b0.mp h5
    refine q_iconst (n := 18) dX8_fits_17 rfl (k := ?_)
    refine q_iret dX8_fits_18 rfl (fun _ => rfl) ?_
    refine ⟨congrArg some (congrArg Sum.inl (Eq.symm ?_)), _, rfl⟩
    unfold fFits
    first
      | exact if_pos (by assumption)
      | exact if_neg (by omega)
  · have h5 := q_b1.mp h5
    refine q_aload_n (n := 9) dX8_fits_8 rfl rfl ?_
    refine q_iload_n (n := 10) dX8_fits_9 rfl rfl ?_
    refine q_iload_n (n := 11) dX8_fits_10 rfl rfl ?_
    refine q_v2 (n := 14) dX8_fits_11 rfl (zX8_fitting x y σ _ hI ⟨by omega, by omega⟩ ⟨by omega, by omega⟩) vX8_fitting lX8_215 rfl rfl mi0 rfl (fun v11 σ11 h11 => ?_)
    obtain ⟨rfl, s11, rfl, hfr11⟩ := h11
    · skip
      refine q_go (t := 18) dX8_fits_14 (by decide) ?_
      refine q_iret dX8_fits_18 rfl (fun _ => rfl) ?_
      refine ⟨congrArg some (congrArg Sum.inl (Eq.symm ?_)), _, rfl⟩
      unfold fFits
      first
        | exact if_pos (by assumption)
        | exact if_neg (by omega)
set_option maxRecDepth 100000 in
theorem lpX8_on (sh : q_H) (σ : q_S) (x : Int) : ∀ (n : Nat) (k a : Int), (n : Int) + k = 31 → 0 ≤ k → 0 ≤ a → a ≤ k → q_WP mX8_ones sh 4 [some (.inl x), some (.inl a), some (.inl k)] [] σ (fun r σ' => r = some (.inl (onS x n k a)) ∧ σ' = σ) := by
  intro n
  induction n with
  | zero =>
    intro k a hi h0 ha0 ha
    refine q_iload_n (n := 5) dX8_ones_4 rfl rfl ?_
    refine q_bipush (n := 7) dX8_ones_5 rfl (k := ?_)
    refine q_icmp_ge (n := 10) (t := 24) dX8_ones_7 rfl (by decide) (fun h7 => ?_) (fun h7 => ?_)
    · skip
      refine q_iload_n (n := 25) dX8_ones_24 rfl rfl ?_
      refine q_iret dX8_ones_25 rfl (fun _ => rfl) ?_
      exact ⟨rfl, rfl⟩
    · exact absurd h7 (by omega)
  | succ n ih =>
    intro k a hi h0 ha0 ha
    have hb := and1_01 (q_shr x k)
    refine q_iload_n (n := 5) dX8_ones_4 rfl rfl ?_
    refine q_bipush (n := 7) dX8_ones_5 rfl (k := ?_)
    refine q_icmp_ge (n := 10) (t := 24) dX8_ones_7 rfl (by decide) (fun h7 => ?_) (fun h7 => ?_)
    · exact absurd h7 (by omega)
    · skip
      refine q_iload_n (n := 11) dX8_ones_10 rfl rfl ?_
      refine q_iload_n (n := 12) dX8_ones_11 rfl rfl ?_
      refine q_iload_n (n := 13) dX8_ones_12 rfl rfl ?_
      refine q_ishr (n := 14) dX8_ones_13 rfl ?_
      refine q_iconst (n := 15) dX8_ones_14 rfl (k := ?_)
      refine q_iand (n := 16) dX8_ones_15 rfl ?_
      refine q_iaddS (n := 17) dX8_ones_16 rfl ⟨by omega, by omega⟩ ?_
      refine q_istore_n (n := 18) dX8_ones_17 rfl (Nat.le_of_ble_eq_true rfl) (q_s1_1 rfl) ?_
      refine q_iinc (n := 21) dX8_ones_18 rfl (Nat.le_of_ble_eq_true rfl) rfl (q_nwid ⟨by omega, by omega⟩) (q_s1_s (q_s1_1 rfl)) ?_
      refine q_go (t := 4) dX8_ones_21 (by decide) ?_
      rw [onS]
      exact ih _ _ (by omega) (by omega) (by omega) (by omega)
set_option maxRecDepth 100000 in
theorem zX8_ones (sh : q_H) (x : Int) (σ : q_S) : q_Ct mX8_ones sh [.inl x] σ (fun r σ' => r = some (.inl (onS x 31 0 0)) ∧ σ' = σ) := by
  refine q_ct 2 (by decide) rfl rfl ?_
  show q_WP mX8_ones sh 0 [some (.inl x), none, none] [] σ _
  refine q_iconst (n := 1) dX8_ones_0 rfl (k := ?_)
  refine q_istore_n (n := 2) dX8_ones_1 rfl (Nat.le_of_ble_eq_true rfl) (q_s1_1 rfl) ?_
  refine q_iconst (n := 3) dX8_ones_2 rfl (k := ?_)
  refine q_istore_n (n := 4) dX8_ones_3 rfl (Nat.le_of_ble_eq_true rfl) (q_s1_s (q_s1_1 rfl)) ?_
  exact lpX8_on sh σ x 31 0 0 (by decide) (by decide) (by decide) (by decide)
set_option maxRecDepth 100000 in
theorem lpX8_ty (σ : q_S) (hI : IM σ) (x : Int) (Q : Option q_V → q_S → Prop) (hx : -20 ≤ x ∧ x ≤ 20) : ∀ (n : Nat) (y : Int) (a : Int × Int) (o5 : Option q_V) (s : q_S), (n : Int) + y = 21 → -20 ≤ y → (-1 ≤ a.1 ∧ a.1 ≤ 8) ∧ (0 ≤ a.2 ∧ a.2 ≤ 5000) → (∀ (o4 o5 : Option q_V) (s : q_S), q_WP mX8_through shM 84 [some (.inr (.inr 0)), some (.inl (thY (cntG (σ 1 1) (pM (σ 1) 2)) x n y a).1), some (.inl (bq (thY (cntG (σ 1 1) (pM (σ 1) 2)) x n y a))), some (.inl x), o4, o5] [] (ovM σ s) Q) → q_WP mX8_through shM 29 [some (.inr (.inr 0)), some (.inl a.1), some (.inl (bq a)), some (.inl x), some (.inl y), o5] [] (ovM σ s) Q := by
  intro n
  have hn := hI.nt
  induction n with
  | zero =>
    intro y a o5 s hy h0 ha hk
    refine q_iload (n := 31) dX8_through_29 rfl rfl ?_
    refine q_bipush (n := 33) dX8_through_31 rfl (k := ?_)
    refine q_icmp_gt (n := 36) (t := 84) dX8_through_33 rfl (by decide) (fun h33 => ?_) (fun h33 => ?_)
    · skip
      exact hk _ _ _
    · exact absurd h33 (by omega)
  | succ n ih =>
    intro y a o5 s hy h0 ha hk
    have hcp := cnt_popc (f := (pM (σ 1) 2)) (x := x) (y := y) hn
    have hos := onS_popc hcp.1
    rw [hcp.2] at hos
    have hc := cntL_bd (f := (pM (σ 1) 2)) (x := x) (y := y) (σ 1 1).toNat 0 0
    have hc2 : 0 ≤ (cntG (σ 1 1) (pM (σ 1) 2)) x y ∧ (cntG (σ 1 1) (pM (σ 1) 2)) x y ≤ 8 := by unfold cntG; omega
    refine q_iload (n := 31) dX8_through_29 rfl rfl ?_
    refine q_bipush (n := 33) dX8_through_31 rfl (k := ?_)
    refine q_icmp_gt (n := 36) (t := 84) dX8_through_33 rfl (by decide) (fun h33 => ?_) (fun h33 => ?_)
    · exact absurd h33 (by omega)
    · skip
      refine q_aload_n (n := 37) dX8_through_36 rfl rfl ?_
      refine q_iload_n (n := 38) dX8_through_37 rfl rfl ?_
      refine q_iload (n := 40) dX8_through_38 rfl rfl ?_
      refine q_v2 (n := 43) dX8_through_40 rfl (zX8_fitting x y σ _ hI ⟨by omega, by omega⟩ ⟨by omega, by omega⟩) vX8_fitting lX8_215 rfl rfl mi0 rfl (fun v40 σ40 h40 => ?_)
      obtain ⟨rfl, s40, rfl, hfr40⟩ := h40
      · skip
        refine q_c1D (n := 46) dX8_through_43 rfl (zX8_ones _ _ _) vX8_ones lX8_167 rfl rfl ?_
        rw [hos]
        refine q_istore (n := 48) dX8_through_46 rfl (Nat.le_of_ble_eq_true rfl) (q_s1_s (q_s1_s (q_s1_s (q_s1_s (q_s1_1 rfl))))) ?_
        refine q_iload (n := 50) dX8_through_48 rfl rfl ?_
        refine q_iload_n (n := 51) dX8_through_50 rfl rfl ?_
        refine q_icmp_le (n := 54) (t := 78) dX8_through_51 rfl (by decide) (fun h51 => ?_) (fun h51 => ?_)
        · skip
          refine q_iinc (n := 81) dX8_through_78 rfl (Nat.le_of_ble_eq_true rfl) rfl (q_nwid ⟨by omega, by omega⟩) (q_s1_s (q_s1_s (q_s1_s (q_s1_1 rfl)))) ?_
          refine q_go (t := 29) dX8_through_81 (by decide) ?_
          rw [thY] at hk
          first
            | (rw [if_pos (by omega)] at hk
               have e : bq ((cntG (σ 1 1) (pM (σ 1) 2)) x y, 100 * (x + 20) + y + 20) = 10000 * (cntG (σ 1 1) (pM (σ 1) 2)) x y + 100 * (x + 20) + y + 20 := by
                 unfold bq
                 rw [if_neg (by dsimp only; omega)]
                 dsimp only
                 omega
               rw [← e]
               exact ih (y + 1) ((cntG (σ 1 1) (pM (σ 1) 2)) x y, 100 * (x + 20) + y + 20) _ _ (by omega) (by omega) (by dsimp only; omega) hk)
            | (rw [if_neg (by omega)] at hk
               exact ih (y + 1) a _ _ (by omega) (by omega) ha hk)
        · skip
          refine q_iload (n := 56) dX8_through_54 rfl rfl ?_
          refine q_istore_n (n := 57) dX8_through_56 rfl (Nat.le_of_ble_eq_true rfl) (q_s1_1 rfl) ?_
          refine q_sipush (n := 60) dX8_through_57 rfl (k := ?_)
          refine q_iload (n := 62) dX8_through_60 rfl rfl ?_
          refine q_imulS (n := 63) dX8_through_62 rfl ⟨by omega, by omega⟩ ?_
          refine q_bipush (n := 65) dX8_through_63 rfl (k := ?_)
          refine q_iload_n (n := 66) dX8_through_65 rfl rfl ?_
          refine q_bipush (n := 68) dX8_through_66 rfl (k := ?_)
          refine q_iaddS (n := 69) dX8_through_68 rfl ⟨by omega, by omega⟩ ?_
          refine q_imulS (n := 70) dX8_through_69 rfl ⟨by omega, by omega⟩ ?_
          refine q_iaddS (n := 71) dX8_through_70 rfl ⟨by omega, by omega⟩ ?_
          refine q_iload (n := 73) dX8_through_71 rfl rfl ?_
          refine q_iaddS (n := 74) dX8_through_73 rfl ⟨by omega, by omega⟩ ?_
          refine q_bipush (n := 76) dX8_through_74 rfl (k := ?_)
          refine q_iaddS (n := 77) dX8_through_76 rfl ⟨by omega, by omega⟩ ?_
          refine q_istore_n (n := 78) dX8_through_77 rfl (Nat.le_of_ble_eq_true rfl) (q_s1_s (q_s1_1 rfl)) ?_
          refine q_iinc (n := 81) dX8_through_78 rfl (Nat.le_of_ble_eq_true rfl) rfl (q_nwid ⟨by omega, by omega⟩) (q_s1_s (q_s1_s (q_s1_s (q_s1_1 rfl)))) ?_
          refine q_go (t := 29) dX8_through_81 (by decide) ?_
          rw [thY] at hk
          first
            | (rw [if_pos (by omega)] at hk
               have e : bq ((cntG (σ 1 1) (pM (σ 1) 2)) x y, 100 * (x + 20) + y + 20) = 10000 * (cntG (σ 1 1) (pM (σ 1) 2)) x y + 100 * (x + 20) + y + 20 := by
                 unfold bq
                 rw [if_neg (by dsimp only; omega)]
                 dsimp only
                 omega
               rw [← e]
               exact ih (y + 1) ((cntG (σ 1 1) (pM (σ 1) 2)) x y, 100 * (x + 20) + y + 20) _ _ (by omega) (by omega) (by dsimp only; omega) hk)
            | (rw [if_neg (by omega)] at hk
               exact ih (y + 1) a _ _ (by omega) (by omega) ha hk)
set_option maxRecDepth 100000 in
theorem lpX8_tx (σ : q_S) (hI : IM σ) (h1 : σ 1 1 ≠ 0) : ∀ (n : Nat) (x : Int) (a : Int × Int) (o4 o5 : Option q_V) (s : q_S), (n : Int) + x = 21 → -20 ≤ x → (-1 ≤ a.1 ∧ a.1 ≤ 8) ∧ (0 ≤ a.2 ∧ a.2 ≤ 5000) → thX (cntG (σ 1 1) (pM (σ 1) 2)) n x a = thX (cntG (σ 1 1) (pM (σ 1) 2)) 41 (-20) (-1, 0) → q_WP mX8_through shM 19 [some (.inr (.inr 0)), some (.inl a.1), some (.inl (bq a)), some (.inl x), o4, o5] [] (ovM σ s) (fun r σ' => r = some (.inl (fThrough (σ 1 1) (pM (σ 1) 2))) ∧ ∃ s', σ' = ovM σ s') := by
  intro n
  have hn := hI.nt
  induction n with
  | zero =>
    intro x a o4 o5 s hx h0 ha he
    rw [thX] at he
    refine q_iload_n (n := 20) dX8_through_19 rfl rfl ?_
    refine q_bipush (n := 22) dX8_through_20 rfl (k := ?_)
    refine q_icmp_gt (n := 25) (t := 90) dX8_through_22 rfl (by decide) (fun h22 => ?_) (fun h22 => ?_)
    · skip
      refine q_iload_n (n := 91) dX8_through_90 rfl rfl ?_
      refine q_iret dX8_through_91 rfl (fun _ => rfl) ?_
      have h0 := thX_0 (nt := σ 1 1) (f := (pM (σ 1) 2))
      rw [← he] at h0
      unfold fThrough
      rw [if_neg h1, ← he]
      unfold bq
      rw [if_neg (by omega)]
      exact ⟨rfl, _, rfl⟩
    · exact absurd h22 (by omega)
  | succ n ih =>
    intro x a o4 o5 s hx h0 ha he
    rw [thX] at he
    refine q_iload_n (n := 20) dX8_through_19 rfl rfl ?_
    refine q_bipush (n := 22) dX8_through_20 rfl (k := ?_)
    refine q_icmp_gt (n := 25) (t := 90) dX8_through_22 rfl (by decide) (fun h22 => ?_) (fun h22 => ?_)
    · exact absurd h22 (by omega)
    · skip
      refine q_bipush (n := 27) dX8_through_25 rfl (k := ?_)
      refine q_istore (n := 29) dX8_through_27 rfl (Nat.le_of_ble_eq_true rfl) (q_s1_s (q_s1_s (q_s1_s (q_s1_1 rfl)))) ?_
      refine lpX8_ty σ hI x _ (by omega) 41 (-20) a _ _ (by decide) (by decide) ha ?_
      intro o4 o5 s
      refine q_iinc (n := 87) dX8_through_84 rfl (Nat.le_of_ble_eq_true rfl) rfl (q_nwid ⟨by omega, by omega⟩) (q_s1_s (q_s1_s (q_s1_1 rfl))) ?_
      refine q_go (t := 19) dX8_through_87 (by decide) ?_
      exact ih (x + 1) _ _ _ _ (by omega) (by omega) (thY_bd hn (by omega) 41 (-20) a (by decide) (by decide) ha) he
set_option maxRecDepth 100000 in
theorem zX8_through (σ s : q_S) (hI : IM σ) : q_Ct mX8_through shM [.inr (.inr 0)] (ovM σ s) (fun r σ' => r = some (.inl (fThrough (σ 1 1) (pM (σ 1) 2))) ∧ ∃ s', σ' = ovM σ s') := by
  refine q_ct 5 (by decide) rfl rfl ?_
  show q_WP mX8_through shM 0 [some (.inr (.inr 0)), none, none, none, none, none] [] (ovM σ s) _
  have hn := hI.nt
  have hvv := hI.nv
  refine q_aload_n (n := 1) dX8_through_0 rfl rfl ?_
  refine q_getR (n := 4) dX8_through_1 rfl fX8_23 mi0 rfl ?_
  refine q_iconst (n := 5) dX8_through_4 rfl (k := ?_)
  refine q_ialoadF (σ 1) (n := 6) dX8_through_5 rfl mi1 ⟨by omega, by omega⟩ rfl ?_
  refine q_if_ne (n := 9) (t := 12) dX8_through_6 rfl (by decide) (fun h6 => ?_) (fun h6 => ?_)
  · skip
    refine q_iconst (n := 13) dX8_through_12 rfl (k := ?_)
    refine q_istore_n (n := 14) dX8_through_13 rfl (Nat.le_of_ble_eq_true rfl) (q_s1_1 rfl) ?_
    refine q_iconst (n := 15) dX8_through_14 rfl (k := ?_)
    refine q_istore_n (n := 16) dX8_through_15 rfl (Nat.le_of_ble_eq_true rfl) (q_s1_s (q_s1_1 rfl)) ?_
    refine q_bipush (n := 18) dX8_through_16 rfl (k := ?_)
    refine q_istore_n (n := 19) dX8_through_18 rfl (Nat.le_of_ble_eq_true rfl) (q_s1_s (q_s1_s (q_s1_1 rfl))) ?_
    exact lpX8_tx σ hI ‹_› 41 (-20) (-1, 0) _ _ _ (by decide) (by decide) ⟨⟨by decide, by decide⟩, by decide, by decide⟩ rfl
  · skip
    refine q_bipush (n := 11) dX8_through_9 rfl (k := ?_)
    refine q_iret dX8_through_11 rfl (fun _ => rfl) ?_
    unfold fThrough
    rw [if_pos (by assumption)]
    exact ⟨rfl, _, rfl⟩
set_option maxRecDepth 100000 in
theorem lpX8_my (σ : q_S) (hI : IM σ) (a b k x : Int) (Q : Option q_V → q_S → Prop) (ha : 0 ≤ a ∧ a < σ 1 1) (hb : 0 ≤ b ∧ b < σ 1 1) (hx : -20 ≤ x ∧ x ≤ 20) : ∀ (n : Nat) (y c : Int) (s : q_S), (n : Int) + y = 21 → -20 ≤ y → 0 ≤ c → c ≤ 1000000 - n → (∀ (c' : Int) (o6 : Option q_V) (s : q_S), mtY (on2 (pM (σ 1) 2) a b) k x n y c = .inl c' → 0 ≤ c' → c' ≤ c + n → q_WP mX8_meets shM 111 [some (.inr (.inr 0)), some (.inl a), some (.inl b), some (.inl k), some (.inl c'), some (.inl x), o6] [] (ovM σ s) Q) → (∀ v s, mtY (on2 (pM (σ 1) 2) a b) k x n y c = .inr v → Q (some (.inl v)) (ovM σ s)) → q_WP mX8_meets shM 46 [some (.inr (.inr 0)), some (.inl a), some (.inl b), some (.inl k), some (.inl c), some (.inl x), some (.inl y)] [] (ovM σ s) Q := by
  intro n
  induction n with
  | zero =>
    intro y c s hy h0 hc hc2 hk hr
    refine q_iload (n := 48) dX8_meets_46 rfl rfl ?_
    refine q_bipush (n := 50) dX8_meets_48 rfl (k := ?_)
    refine q_icmp_gt (n := 53) (t := 111) dX8_meets_50 rfl (by decide) (fun h50 => ?_) (fun h50 => ?_)
    · skip
      exact hk c _ _ rfl (by omega) (by omega)
    · exact absurd h50 (by omega)
  | succ n ih =>
    intro y c s hy h0 hc hc2 hk hr
    refine q_iload (n := 48) dX8_meets_46 rfl rfl ?_
    refine q_bipush (n := 50) dX8_meets_48 rfl (k := ?_)
    refine q_icmp_gt (n := 53) (t := 111) dX8_meets_50 rfl (by decide) (fun h50 => ?_) (fun h50 => ?_)
    · exact absurd h50 (by omega)
    · skip
      refine q_aload_n (n := 54) dX8_meets_53 rfl rfl ?_
      refine q_iload_n (n := 55) dX8_meets_54 rfl rfl ?_
      refine q_iload (n := 57) dX8_meets_55 rfl rfl ?_
      refine q_iload (n := 59) dX8_meets_57 rfl rfl ?_
      refine q_v3 (n := 62) dX8_meets_59 rfl (zX8_isOn a x y σ _ hI ha ⟨by omega, by omega⟩ ⟨by omega, by omega⟩) vX8_isOn lX8_173 rfl rfl mi0 rfl (fun v59 σ59 h59 => ?_)
      obtain ⟨rfl, s59, rfl, hfr59⟩ := h59
      · skip
        refine q_if_eq (n := 65) (t := 105) dX8_meets_62 rfl (by decide) (fun h62 => ?_) (fun h62 => ?_)
        · have h62 := q_b0.mp h62
          refine q_iinc (n := 108) dX8_meets_105 rfl (Nat.le_of_ble_eq_true rfl) rfl (q_nwid ⟨by omega, by omega⟩) (q_s1_s (q_s1_s (q_s1_s (q_s1_s (q_s1_s (q_s1_1 rfl)))))) ?_
          refine q_go (t := 46) dX8_meets_108 (by decide) ?_
          first
            | exact ih (y + 1) (c + 1) _ (by omega) (by omega) (by omega) (by omega) (fun c' o8 s e h1 h2 => hk c' o8 s (by rw [mtY, if_pos (on2_t h62 h74), if_neg h83]; exact e) h1 (by omega)) (fun v s e => hr v s (by rw [mtY, if_pos (on2_t h62 h74), if_neg h83]; exact e))
            | exact ih (y + 1) c _ (by omega) (by omega) (by omega) (by omega) (fun c' o8 s e h1 h2 => hk c' o8 s (by rw [mtY, if_neg (on2_f2 h74)]; exact e) h1 (by omega)) (fun v s e => hr v s (by rw [mtY, if_neg (on2_f2 h74)]; exact e))
            | exact ih (y + 1) c _ (by omega) (by omega) (by omega) (by omega) (fun c' o8 s e h1 h2 => hk c' o8 s (by rw [mtY, if_neg (on2_f1 h62)]; exact e) h1 (by omega)) (fun v s e => hr v s (by rw [mtY, if_neg (on2_f1 h62)]; exact e))
        · have h62 := q_b1.mp h62
          refine q_aload_n (n := 66) dX8_meets_65 rfl rfl ?_
          refine q_iload_n (n := 67) dX8_meets_66 rfl rfl ?_
          refine q_iload (n := 69) dX8_meets_67 rfl rfl ?_
          refine q_iload (n := 71) dX8_meets_69 rfl rfl ?_
          refine q_v3 (n := 74) dX8_meets_71 rfl (zX8_isOn b x y σ _ hI hb ⟨by omega, by omega⟩ ⟨by omega, by omega⟩) vX8_isOn lX8_173 rfl rfl mi0 rfl (fun v71 σ71 h71 => ?_)
          obtain ⟨rfl, s71, rfl, hfr71⟩ := h71
          · skip
            refine q_if_ne (n := 77) (t := 80) dX8_meets_74 rfl (by decide) (fun h74 => ?_) (fun h74 => ?_)
            · have h74 := q_b1.mp h74
              refine q_iload (n := 82) dX8_meets_80 rfl rfl ?_
              refine q_iload_n (n := 83) dX8_meets_82 rfl rfl ?_
              refine q_icmp_ne (n := 86) (t := 102) dX8_meets_83 rfl (by decide) (fun h83 => ?_) (fun h83 => ?_)
              · skip
                refine q_iinc (n := 105) dX8_meets_102 rfl (Nat.le_of_ble_eq_true rfl) rfl (q_nwid ⟨by omega, by omega⟩) (q_s1_s (q_s1_s (q_s1_s (q_s1_1 rfl)))) ?_
                refine q_iinc (n := 108) dX8_meets_105 rfl (Nat.le_of_ble_eq_true rfl) rfl (q_nwid ⟨by omega, by omega⟩) (q_s1_s (q_s1_s (q_s1_s (q_s1_s (q_s1_s (q_s1_1 rfl)))))) ?_
                refine q_go (t := 46) dX8_meets_108 (by decide) ?_
                first
                  | exact ih (y + 1) (c + 1) _ (by omega) (by omega) (by omega) (by omega) (fun c' o8 s e h1 h2 => hk c' o8 s (by rw [mtY, if_pos (on2_t h62 h74), if_neg h83]; exact e) h1 (by omega)) (fun v s e => hr v s (by rw [mtY, if_pos (on2_t h62 h74), if_neg h83]; exact e))
                  | exact ih (y + 1) c _ (by omega) (by omega) (by omega) (by omega) (fun c' o8 s e h1 h2 => hk c' o8 s (by rw [mtY, if_neg (on2_f2 h74)]; exact e) h1 (by omega)) (fun v s e => hr v s (by rw [mtY, if_neg (on2_f2 h74)]; exact e))
                  | exact ih (y + 1) c _ (by omega) (by omega) (by omega) (by omega) (fun c' o8 s e h1 h2 => hk c' o8 s (by rw [mtY, if_neg (on2_f1 h62)]; exact e) h1 (by omega)) (fun v s e => hr v s (by rw [mtY, if_neg (on2_f1 h62)]; exact e))
              · skip
                refine q_sipush (n := 89) dX8_meets_86 rfl (k := ?_)
                refine q_iload (n := 91) dX8_meets_89 rfl rfl ?_
                refine q_bipush (n := 93) dX8_meets_91 rfl (k := ?_)
                refine q_iaddS (n := 94) dX8_meets_93 rfl ⟨by omega, by omega⟩ ?_
                refine q_imulS (n := 95) dX8_meets_94 rfl ⟨by omega, by omega⟩ ?_
                refine q_iload (n := 97) dX8_meets_95 rfl rfl ?_
                refine q_iaddS (n := 98) dX8_meets_97 rfl ⟨by omega, by omega⟩ ?_
                refine q_bipush (n := 100) dX8_meets_98 rfl (k := ?_)
                refine q_iaddS (n := 101) dX8_meets_100 rfl ⟨by omega, by omega⟩ ?_
                refine q_iret dX8_meets_101 rfl (fun _ => rfl) ?_
                exact hr _ _ (by rw [mtY, if_pos (on2_t h62 h74), if_pos h83])
            · have h74 := q_b0.mp h74
              refine q_go (t := 105) dX8_meets_77 (by decide) ?_
              refine q_iinc (n := 108) dX8_meets_105 rfl (Nat.le_of_ble_eq_true rfl) rfl (q_nwid ⟨by omega, by omega⟩) (q_s1_s (q_s1_s (q_s1_s (q_s1_s (q_s1_s (q_s1_1 rfl)))))) ?_
              refine q_go (t := 46) dX8_meets_108 (by decide) ?_
              first
                | exact ih (y + 1) (c + 1) _ (by omega) (by omega) (by omega) (by omega) (fun c' o8 s e h1 h2 => hk c' o8 s (by rw [mtY, if_pos (on2_t h62 h74), if_neg h83]; exact e) h1 (by omega)) (fun v s e => hr v s (by rw [mtY, if_pos (on2_t h62 h74), if_neg h83]; exact e))
                | exact ih (y + 1) c _ (by omega) (by omega) (by omega) (by omega) (fun c' o8 s e h1 h2 => hk c' o8 s (by rw [mtY, if_neg (on2_f2 h74)]; exact e) h1 (by omega)) (fun v s e => hr v s (by rw [mtY, if_neg (on2_f2 h74)]; exact e))
                | exact ih (y + 1) c _ (by omega) (by omega) (by omega) (by omega) (fun c' o8 s e h1 h2 => hk c' o8 s (by rw [mtY, if_neg (on2_f1 h62)]; exact e) h1 (by omega)) (fun v s e => hr v s (by rw [mtY, if_neg (on2_f1 h62)]; exact e))
set_option maxRecDepth 100000 in
theorem lpX8_mx (σ : q_S) (hI : IM σ) (a b k : Int) (ha : 0 ≤ a ∧ a < σ 1 1) (hb : 0 ≤ b ∧ b < σ 1 1) (hok : ¬ (¬ (0 ≤ a ∧ a < σ 1 1) ∨ ¬ (0 ≤ b ∧ b < σ 1 1) ∨ a = b ∨ k < -1)) : ∀ (n : Nat) (x c : Int) (o6 : Option q_V) (s : q_S), (n : Int) + x = 21 → -20 ≤ x → 0 ≤ c → c ≤ 100000 - 41 * n → mtX (on2 (pM (σ 1) 2) a b) k n x c = mtX (on2 (pM (σ 1) 2) a b) k 41 (-20) 0 → q_WP mX8_meets shM 35 [some (.inr (.inr 0)), some (.inl a), some (.inl b), some (.inl k), some (.inl c), some (.inl x), o6] [] (ovM σ s) (fun r σ' => r = some (.inl (fMeets (σ 1 1) (pM (σ 1) 2) a b k)) ∧ ∃ s', σ' = ovM σ s') := by
  intro n
  induction n with
  | zero =>
    intro x c o6 s hx h0 hc hc2 he
    rw [mtX] at he
    refine q_iload (n := 37) dX8_meets_35 rfl rfl ?_
    refine q_bipush (n := 39) dX8_meets_37 rfl (k := ?_)
    refine q_icmp_gt (n := 42) (t := 117) dX8_meets_39 rfl (by decide) (fun h39 => ?_) (fun h39 => ?_)
    · skip
      refine q_iload_n (n := 118) dX8_meets_117 rfl rfl ?_
      refine q_iconst (n := 119) dX8_meets_118 rfl (k := ?_)
      refine q_icmp_ne (n := 122) (t := 127) dX8_meets_119 rfl (by decide) (fun h119 => ?_) (fun h119 => ?_)
      · skip
        refine q_bipush (n := 129) dX8_meets_127 rfl (k := ?_)
        refine q_iret dX8_meets_129 rfl (fun _ => rfl) ?_
        unfold fMeets
        rw [if_neg hok, ← he]
        dsimp only
        first
          | (rw [if_pos (by assumption)]; exact ⟨rfl, _, rfl⟩)
          | (rw [if_neg (by assumption)]; exact ⟨rfl, _, rfl⟩)
      · skip
        refine q_iload (n := 124) dX8_meets_122 rfl rfl ?_
        refine q_go (t := 129) dX8_meets_124 (by decide) ?_
        refine q_iret dX8_meets_129 rfl (fun _ => rfl) ?_
        unfold fMeets
        rw [if_neg hok, ← he]
        dsimp only
        first
          | (rw [if_pos (by assumption)]; exact ⟨rfl, _, rfl⟩)
          | (rw [if_neg (by assumption)]; exact ⟨rfl, _, rfl⟩)
    · exact absurd h39 (by omega)
  | succ n ih =>
    intro x c o6 s hx h0 hc hc2 he
    rw [mtX] at he
    refine q_iload (n := 37) dX8_meets_35 rfl rfl ?_
    refine q_bipush (n := 39) dX8_meets_37 rfl (k := ?_)
    refine q_icmp_gt (n := 42) (t := 117) dX8_meets_39 rfl (by decide) (fun h39 => ?_) (fun h39 => ?_)
    · exact absurd h39 (by omega)
    · skip
      refine q_bipush (n := 44) dX8_meets_42 rfl (k := ?_)
      refine q_istore (n := 46) dX8_meets_44 rfl (Nat.le_of_ble_eq_true rfl) (q_s1_s (q_s1_s (q_s1_s (q_s1_s (q_s1_s (q_s1_1 rfl)))))) ?_
      refine lpX8_my σ hI a b k x _ ha hb (by omega) 41 (-20) c _ (by decide) (by decide) hc (by omega) ?_ ?_
      · intro c' o6 s e h1 h2
        refine q_iinc (n := 114) dX8_meets_111 rfl (Nat.le_of_ble_eq_true rfl) rfl (q_nwid ⟨by omega, by omega⟩) (q_s1_s (q_s1_s (q_s1_s (q_s1_s (q_s1_1 rfl))))) ?_
        refine q_go (t := 35) dX8_meets_114 (by decide) ?_
        rw [e] at he
        exact ih (x + 1) c' o6 s (by omega) (by omega) h1 (by omega) he
      · intro v s e
        rw [e] at he
        dsimp only at he
        unfold fMeets
        rw [if_neg hok, ← he]
        exact ⟨rfl, _, rfl⟩
set_option maxRecDepth 100000 in
theorem zX8_meets (a b k : Int) (σ s : q_S) (hI : IM σ) : q_Ct mX8_meets shM [.inr (.inr 0), .inl a, .inl b, .inl k] (ovM σ s) (fun r σ' => r = some (.inl (fMeets (σ 1 1) (pM (σ 1) 2) a b k)) ∧ ∃ s', σ' = ovM σ s') := by
  refine q_ct 3 (by decide) rfl rfl ?_
  show q_WP mX8_meets shM 0 [some (.inr (.inr 0)), some (.inl a), some (.inl b), some (.inl k), none, none, none] [] (ovM σ s) _
  have hn := hI.nt
  have hvv := hI.nv
  refine q_aload_n (n := 1) dX8_meets_0 rfl rfl ?_
  refine q_iload_n (n := 2) dX8_meets_1 rfl rfl ?_
  refine q_v1D (n := 5) dX8_meets_2 rfl (zX8_isTrack _ σ _ hn) vX8_isTrack lX8_156 rfl rfl mi0 rfl ?_
  refine q_if_eq (n := 8) (t := 26) dX8_meets_5 rfl (by decide) (fun h5 => ?_) (fun h5 => ?_)
  · have h5 := q_b0.mp h5
    refine q_iconst (n := 27) dX8_meets_26 rfl (k := ?_)
    refine q_iret dX8_meets_27 rfl (fun _ => rfl) ?_
    unfold fMeets
    rw [if_pos (by omega)]
    exact ⟨rfl, _, rfl⟩
  · have h5 := q_b1.mp h5
    refine q_aload_n (n := 9) dX8_meets_8 rfl rfl ?_
    refine q_iload_n (n := 10) dX8_meets_9 rfl rfl ?_
    refine q_v1D (n := 13) dX8_meets_10 rfl (zX8_isTrack _ σ _ hn) vX8_isTrack lX8_156 rfl rfl mi0 rfl ?_
    refine q_if_eq (n := 16) (t := 26) dX8_meets_13 rfl (by decide) (fun h13 => ?_) (fun h13 => ?_)
    · have h13 := q_b0.mp h13
      refine q_iconst (n := 27) dX8_meets_26 rfl (k := ?_)
      refine q_iret dX8_meets_27 rfl (fun _ => rfl) ?_
      unfold fMeets
      rw [if_pos (by omega)]
      exact ⟨rfl, _, rfl⟩
    · have h13 := q_b1.mp h13
      refine q_iload_n (n := 17) dX8_meets_16 rfl rfl ?_
      refine q_iload_n (n := 18) dX8_meets_17 rfl rfl ?_
      refine q_icmp_eq (n := 21) (t := 26) dX8_meets_18 rfl (by decide) (fun h18 => ?_) (fun h18 => ?_)
      · skip
        refine q_iconst (n := 27) dX8_meets_26 rfl (k := ?_)
        refine q_iret dX8_meets_27 rfl (fun _ => rfl) ?_
        unfold fMeets
        rw [if_pos (by omega)]
        exact ⟨rfl, _, rfl⟩
      · skip
        refine q_iload_n (n := 22) dX8_meets_21 rfl rfl ?_
        refine q_iconst (n := 23) dX8_meets_22 rfl (k := ?_)
        refine q_icmp_ge (n := 26) (t := 28) dX8_meets_23 rfl (by decide) (fun h23 => ?_) (fun h23 => ?_)
        · skip
          refine q_iconst (n := 29) dX8_meets_28 rfl (k := ?_)
          refine q_istore (n := 31) dX8_meets_29 rfl (Nat.le_of_ble_eq_true rfl) (q_s1_s (q_s1_s (q_s1_s (q_s1_1 rfl)))) ?_
          refine q_bipush (n := 33) dX8_meets_31 rfl (k := ?_)
          refine q_istore (n := 35) dX8_meets_33 rfl (Nat.le_of_ble_eq_true rfl) (q_s1_s (q_s1_s (q_s1_s (q_s1_s (q_s1_1 rfl))))) ?_
          exact lpX8_mx σ hI a b k h5 h13 (by omega) 41 (-20) 0 _ _ (by decide) (by decide) (by decide) (by decide) rfl
        · skip
          refine q_iconst (n := 27) dX8_meets_26 rfl (k := ?_)
          refine q_iret dX8_meets_27 rfl (fun _ => rfl) ?_
          unfold fMeets
          rw [if_pos (by omega)]
          exact ⟨rfl, _, rfl⟩
