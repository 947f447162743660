theorem mlp_ge {o : Int} {n : Nat} {i f : Int} {g : Int → Int} (h : ¬ f < 4) : mlp o n i f g = (f, g) := by
  match n with
  | 0 => rfl
  | n + 1 => rw [mlp, if_neg h]
set_option maxRecDepth 100000 in
theorem lpX8_tt (σ : q_S) (v : Int) (hv4 : 0 ≤ v ∧ v < 4) (hn : 0 ≤ σ 1 1 ∧ σ 1 1 ≤ 8) : ∀ (n : Nat) (i f : Int) (g : Int → Int) (s : q_S), (n : Int) + i = σ 1 1 → 0 ≤ i → 0 ≤ f → s 0 16 = f → s 9 = g → f + nbL (pM (σ 1) 7 v) n i ≤ 4 → q_WP mX8_tellsThose shM 33 [some (.inr (.inr 0)), some (.inl v), some (.inl i)] [] (ovM σ s) (fun r σ' => r = none ∧ (∃ s', σ' = ovM σ s' ∧ s' 0 16 = (mlp (pM (σ 1) 7 v) n i f g).1 ∧ s' 9 = (mlp (pM (σ 1) 7 v) n i f g).2 ∧ ∀ c x : Int, c ≠ 9 → ¬ (c = 0 ∧ x = 16) → s' c x = s c x)) := by
  intro n
  induction n with
  | zero =>
    intro i f g s hi h0 hf0 hf hg hb
    refine q_iload_n (n := 34) dX8_tellsThose_33 rfl rfl ?_
    refine q_aload_n (n := 35) dX8_tellsThose_34 rfl rfl ?_
    refine q_getR (n := 38) dX8_tellsThose_35 rfl fX8_23 mi0 rfl ?_
    refine q_iconst (n := 39) dX8_tellsThose_38 rfl (k := ?_)
    refine q_ialoadF (σ 1) (n := 40) dX8_tellsThose_39 rfl mi1 ⟨by omega, by omega⟩ rfl ?_
    refine q_icmp_ge (n := 43) (t := 82) dX8_tellsThose_40 rfl (by decide) (fun h40 => ?_) (fun h40 => ?_)
    · skip
      refine q_vret dX8_tellsThose_82 rfl ?_
      exact ⟨rfl, s, rfl, hf, hg, fun _ _ _ _ => rfl⟩
    · exact absurd h40 (by omega)
  | succ n ih =>
    intro i f g s hi h0 hf0 hf hg hb
    have hnb := nbL_0 (o := (pM (σ 1) 7 v)) n (i + 1)
    rw [nbL] at hb
    refine q_iload_n (n := 34) dX8_tellsThose_33 rfl rfl ?_
    refine q_aload_n (n := 35) dX8_tellsThose_34 rfl rfl ?_
    refine q_getR (n := 38) dX8_tellsThose_35 rfl fX8_23 mi0 rfl ?_
    refine q_iconst (n := 39) dX8_tellsThose_38 rfl (k := ?_)
    refine q_ialoadF (σ 1) (n := 40) dX8_tellsThose_39 rfl mi1 ⟨by omega, by omega⟩ rfl ?_
    refine q_icmp_ge (n := 43) (t := 82) dX8_tellsThose_40 rfl (by decide) (fun h40 => ?_) (fun h40 => ?_)
    · exact absurd h40 (by omega)
    · skip
      refine q_aload_n (n := 44) dX8_tellsThose_43 rfl rfl ?_
      refine q_iload_n (n := 45) dX8_tellsThose_44 rfl rfl ?_
      refine q_iconst (n := 46) dX8_tellsThose_45 rfl (k := ?_)
      refine q_v2D (n := 49) dX8_tellsThose_46 rfl (zX8_vertexAt _ _ σ _ (by omega) (by omega)) vX8_vertexAt lX8_185 rfl rfl mi0 rfl ?_
      refine q_iload_n (n := 50) dX8_tellsThose_49 rfl rfl ?_
      refine q_c2D (n := 53) dX8_tellsThose_50 rfl (zX8_has _ _ _ _) vX8_has lX8_170 rfl rfl ?_
      refine q_if_eq (n := 56) (t := 76) dX8_tellsThose_53 rfl (by decide) (fun h53 => ?_) (fun h53 => ?_)
      · have h53 : ¬ q_and (q_shr (pM (σ 1) 7 v) i) 1 = 1 := q_b0.mp h53
        rw [if_neg h53] at hb
        skip
        refine q_iinc (n := 79) dX8_tellsThose_76 rfl (Nat.le_of_ble_eq_true rfl) rfl (q_nwid ⟨by omega, by omega⟩) (q_s1_s (q_s1_1 rfl)) ?_
        refine q_go (t := 33) dX8_tellsThose_79 (by decide) ?_
        first
          | (rw [om_up rfl, mlp, if_pos (by omega), if_pos h53]
             refine (ih (i + 1) (f + 1) (fun j => if j = f then i else g j) _ (by omega) (by omega) (by omega) q_up_s (by rw [q_up_o (by decide), q_up_c, hg]) (by omega)).imp ?_
             rintro r σ2 ⟨h1, s2, h2, h3, h4, h5⟩
             exact ⟨h1, s2, h2, h3, h4, fun c x h6 h7 => by rw [h5 c x h6 h7, q_up_n h7, q_up_n (fun z => h6 z.1)]⟩)
          | (have e : mlp (pM (σ 1) 7 v) (n + 1) i f g = mlp (pM (σ 1) 7 v) n (i + 1) f g := by
               rw [mlp, if_neg h53]
               by_cases z : f < 4
               · rw [if_pos z]
               · rw [if_neg z, mlp_ge z]
             rw [e]
             exact ih (i + 1) f g s (by omega) (by omega) hf0 hf hg (by omega))
      · have h53 : q_and (q_shr (pM (σ 1) 7 v) i) 1 = 1 := q_b1.mp h53
        rw [if_pos h53] at hb
        refine q_aload_n (n := 57) dX8_tellsThose_56 rfl rfl ?_
        refine q_getR (n := 60) dX8_tellsThose_57 rfl fX8_48 mi0 rfl ?_
        refine q_aload_n (n := 61) dX8_tellsThose_60 rfl rfl ?_
        refine q_getIE (f) (kI := 16) (n := 64) (by decide) dX8_tellsThose_61 rfl fX8_218 mi0 rfl rfl hf ?_
        refine q_iload_n (n := 65) dX8_tellsThose_64 rfl rfl ?_
        refine q_iastore (n := 66) dX8_tellsThose_65 rfl mi9 ⟨by omega, by omega⟩ ?_
        rw [om_up rfl]
        refine q_aload_n (n := 67) dX8_tellsThose_66 rfl rfl ?_
        refine q_dup (n := 68) dX8_tellsThose_67 rfl rfl ?_
        refine q_getIE (f) (kI := 16) (n := 71) (by decide) dX8_tellsThose_68 rfl fX8_218 mi0 rfl rfl hf ?_
        refine q_iconst (n := 72) dX8_tellsThose_71 rfl (k := ?_)
        refine q_iaddS (n := 73) dX8_tellsThose_72 rfl ⟨by omega, by omega⟩ ?_
        refine q_putI (kI := 16) (n := 76) dX8_tellsThose_73 rfl pX8_218 mi0 rfl rfl ?_
        skip
        refine q_iinc (n := 79) dX8_tellsThose_76 rfl (Nat.le_of_ble_eq_true rfl) rfl (q_nwid ⟨by omega, by omega⟩) (q_s1_s (q_s1_1 rfl)) ?_
        refine q_go (t := 33) dX8_tellsThose_79 (by decide) ?_
        first
          | (rw [om_up rfl, mlp, if_pos (by omega), if_pos h53]
             refine (ih (i + 1) (f + 1) (fun j => if j = f then i else g j) _ (by omega) (by omega) (by omega) q_up_s (by rw [q_up_o (by decide), q_up_c, hg]) (by omega)).imp ?_
             rintro r σ2 ⟨h1, s2, h2, h3, h4, h5⟩
             exact ⟨h1, s2, h2, h3, h4, fun c x h6 h7 => by rw [h5 c x h6 h7, q_up_n h7, q_up_n (fun z => h6 z.1)]⟩)
          | (have e : mlp (pM (σ 1) 7 v) (n + 1) i f g = mlp (pM (σ 1) 7 v) n (i + 1) f g := by
               rw [mlp, if_neg h53]
               by_cases z : f < 4
               · rw [if_pos z]
               · rw [if_neg z, mlp_ge z]
             rw [e]
             exact ih (i + 1) f g s (by omega) (by omega) hf0 hf hg (by omega))
set_option maxRecDepth 100000 in
theorem zX8_tellsThose (v : Int) (σ s : q_S) (hI : IM σ) (hv : 0 ≤ v ∧ v < σ 1 2) : q_Ct mX8_tellsThose shM [.inr (.inr 0), .inl v] (ovM σ s) (fun r σ' => r = none ∧ (∃ s', σ' = ovM σ s' ∧ (s' 0 16 = mC (pM (σ 1) 6 v) (pM (σ 1) 7 v) (σ 1 1) ∧ (∀ j, 0 ≤ j → j < mC (pM (σ 1) 6 v) (pM (σ 1) 7 v) (σ 1 1) → s' 9 j = mF (pM (σ 1) 6 v) (pM (σ 1) 7 v) (σ 1 1) j)) ∧ ∀ c x : Int, c ≠ 9 → ¬ (c = 0 ∧ x = 16) → s' c x = s c x)) := by
  refine q_ct 1 (by decide) rfl rfl ?_
  show q_WP mX8_tellsThose shM 0 [some (.inr (.inr 0)), some (.inl v), none] [] (ovM σ s) _
  have hn := hI.nt
  have hvv := hI.nv
  have hvt := hI.tie hv
  have hmc := mem_C hn hvt.2.2
  have hbb := tie_bits hn hvt.2.2
  have ha0 : σ 1 (59 + 4 * v + 2) = -1 ∨ 0 ≤ σ 1 (59 + 4 * v + 2) := by
    have h : σ 1 (59 + 4 * v + 2) = -1 ∨ 0 ≤ σ 1 (59 + 4 * v + 2) ∧ σ 1 (59 + 4 * v + 2) < σ 1 1 := hvt.2.2.1
    omega
  refine q_aload_n (n := 1) dX8_tellsThose_0 rfl rfl ?_
  refine q_iconst (n := 2) dX8_tellsThose_1 rfl (k := ?_)
  refine q_putI (kI := 16) (n := 5) dX8_tellsThose_2 rfl pX8_218 mi0 rfl rfl ?_
  rw [om_up rfl]
  refine q_aload_n (n := 6) dX8_tellsThose_5 rfl rfl ?_
  refine q_iload_n (n := 7) dX8_tellsThose_6 rfl rfl ?_
  refine q_iconst (n := 8) dX8_tellsThose_7 rfl (k := ?_)
  refine q_v2D (n := 11) dX8_tellsThose_8 rfl (zX8_vertexAt _ _ σ _ ⟨by omega, by omega⟩ (by decide)) vX8_vertexAt lX8_185 rfl rfl mi0 rfl ?_
  refine q_if_lt (n := 14) (t := 31) dX8_tellsThose_11 rfl (by decide) (fun h11 => ?_) (fun h11 => ?_)
  · skip
    skip
    refine q_iconst (n := 32) dX8_tellsThose_31 rfl (k := ?_)
    refine q_istore_n (n := 33) dX8_tellsThose_32 rfl (Nat.le_of_ble_eq_true rfl) (q_s1_s (q_s1_1 rfl)) ?_
    first
      | (rw [om_up rfl]
         have ha : ¬ (pM (σ 1) 6 v) = -1 := by
           show ¬ σ 1 (59 + 4 * v + 2) = -1
           omega
         have hm := mem_g hn hvt.2.2 (q_up s 0 16 0 9)
         have em : mem0 (pM (σ 1) 6 v) (pM (σ 1) 7 v) (σ 1 1) (q_up s 0 16 0 9) = mlp (pM (σ 1) 7 v) (σ 1 1).toNat 0 1 (fun j => if j = 0 then (pM (σ 1) 6 v) else q_up s 0 16 0 9 j) := if_neg ha
         refine (lpX8_tt σ v (by omega) hn (σ 1 1).toNat 0 1 (fun j => if j = 0 then (pM (σ 1) 6 v) else q_up s 0 16 0 9 j) _ (by omega) (by decide) (by decide) q_up_s (by rw [q_up_o (by decide), q_up_c]; rfl) (by omega)).imp ?_
         rintro r σ2 ⟨h1, s2, h2, h3, h4, h5⟩
         rw [← em] at h3 h4
         refine ⟨h1, s2, h2, ⟨by rw [h3]; exact hm.1, fun j a b => by rw [h4]; exact hm.2 j a b⟩, fun c x h6 h7 => ?_⟩
         rw [h5 c x h6 h7, q_up_n h7, q_up_n (fun z => h6 z.1), q_up_n h7])
      | (have ha : (pM (σ 1) 6 v) = -1 := by
           show σ 1 (59 + 4 * v + 2) = -1
           omega
         have hm := mem_g hn hvt.2.2 (q_up s 0 16 0 9)
         have em : mem0 (pM (σ 1) 6 v) (pM (σ 1) 7 v) (σ 1 1) (q_up s 0 16 0 9) = mlp (pM (σ 1) 7 v) (σ 1 1).toNat 0 0 (q_up s 0 16 0 9) := if_pos ha
         refine (lpX8_tt σ v (by omega) hn (σ 1 1).toNat 0 0 (q_up s 0 16 0 9) _ (by omega) (by decide) (by decide) q_up_s rfl (by omega)).imp ?_
         rintro r σ2 ⟨h1, s2, h2, h3, h4, h5⟩
         rw [← em] at h3 h4
         refine ⟨h1, s2, h2, ⟨by rw [h3]; exact hm.1, fun j a b => by rw [h4]; exact hm.2 j a b⟩, fun c x h6 h7 => ?_⟩
         rw [h5 c x h6 h7, q_up_n h7])
  · skip
    refine q_aload_n (n := 15) dX8_tellsThose_14 rfl rfl ?_
    refine q_getR (n := 18) dX8_tellsThose_15 rfl fX8_48 mi0 rfl ?_
    refine q_iconst (n := 19) dX8_tellsThose_18 rfl (k := ?_)
    refine q_aload_n (n := 20) dX8_tellsThose_19 rfl rfl ?_
    refine q_iload_n (n := 21) dX8_tellsThose_20 rfl rfl ?_
    refine q_iconst (n := 22) dX8_tellsThose_21 rfl (k := ?_)
    refine q_v2D (n := 25) dX8_tellsThose_22 rfl (zX8_vertexAt _ _ σ _ ⟨by omega, by omega⟩ (by decide)) vX8_vertexAt lX8_185 rfl rfl mi0 rfl ?_
    refine q_iastore (n := 26) dX8_tellsThose_25 rfl mi9 ⟨by omega, by omega⟩ ?_
    rw [om_up rfl]
    refine q_aload_n (n := 27) dX8_tellsThose_26 rfl rfl ?_
    refine q_iconst (n := 28) dX8_tellsThose_27 rfl (k := ?_)
    refine q_putI (kI := 16) (n := 31) dX8_tellsThose_28 rfl pX8_218 mi0 rfl rfl ?_
    skip
    refine q_iconst (n := 32) dX8_tellsThose_31 rfl (k := ?_)
    refine q_istore_n (n := 33) dX8_tellsThose_32 rfl (Nat.le_of_ble_eq_true rfl) (q_s1_s (q_s1_1 rfl)) ?_
    first
      | (rw [om_up rfl]
         have ha : ¬ (pM (σ 1) 6 v) = -1 := by
           show ¬ σ 1 (59 + 4 * v + 2) = -1
           omega
         have hm := mem_g hn hvt.2.2 (q_up s 0 16 0 9)
         have em : mem0 (pM (σ 1) 6 v) (pM (σ 1) 7 v) (σ 1 1) (q_up s 0 16 0 9) = mlp (pM (σ 1) 7 v) (σ 1 1).toNat 0 1 (fun j => if j = 0 then (pM (σ 1) 6 v) else q_up s 0 16 0 9 j) := if_neg ha
         refine (lpX8_tt σ v (by omega) hn (σ 1 1).toNat 0 1 (fun j => if j = 0 then (pM (σ 1) 6 v) else q_up s 0 16 0 9 j) _ (by omega) (by decide) (by decide) q_up_s (by rw [q_up_o (by decide), q_up_c]; rfl) (by omega)).imp ?_
         rintro r σ2 ⟨h1, s2, h2, h3, h4, h5⟩
         rw [← em] at h3 h4
         refine ⟨h1, s2, h2, ⟨by rw [h3]; exact hm.1, fun j a b => by rw [h4]; exact hm.2 j a b⟩, fun c x h6 h7 => ?_⟩
         rw [h5 c x h6 h7, q_up_n h7, q_up_n (fun z => h6 z.1), q_up_n h7])
      | (have ha : (pM (σ 1) 6 v) = -1 := by
           show σ 1 (59 + 4 * v + 2) = -1
           omega
         have hm := mem_g hn hvt.2.2 (q_up s 0 16 0 9)
         have em : mem0 (pM (σ 1) 6 v) (pM (σ 1) 7 v) (σ 1 1) (q_up s 0 16 0 9) = mlp (pM (σ 1) 7 v) (σ 1 1).toNat 0 0 (q_up s 0 16 0 9) := if_pos ha
         refine (lpX8_tt σ v (by omega) hn (σ 1 1).toNat 0 0 (q_up s 0 16 0 9) _ (by omega) (by decide) (by decide) q_up_s rfl (by omega)).imp ?_
         rintro r σ2 ⟨h1, s2, h2, h3, h4, h5⟩
         rw [← em] at h3 h4
         refine ⟨h1, s2, h2, ⟨by rw [h3]; exact hm.1, fun j a b => by rw [h4]; exact hm.2 j a b⟩, fun c x h6 h7 => ?_⟩
         rw [h5 c x h6 h7, q_up_n h7])
theorem IM.mem {σ : q_S} (h : IM σ) {v j : Int} (hv : 0 ≤ v ∧ v < σ 1 2) (hj : 0 ≤ j ∧ j < mC (pM (σ 1) 6 v) (pM (σ 1) 7 v) (σ 1 1)) : 0 ≤ mF (pM (σ 1) 6 v) (pM (σ 1) 7 v) (σ 1 1) j ∧ mF (pM (σ 1) 6 v) (pM (σ 1) 7 v) (σ 1 1) j < σ 1 1 := (mem_F h.nt (h.tie hv).2.2).1 j hj.1 hj.2
set_option maxRecDepth 100000 in
theorem lpX8_ib (σ s : q_S) (v : Int) (hI : IM σ) (hv : 0 ≤ v ∧ v < σ 1 2) (hc : mC (pM (σ 1) 6 v) (pM (σ 1) 7 v) (σ 1 1) ≤ 4) (hm0 : s 0 16 = mC (pM (σ 1) 6 v) (pM (σ 1) 7 v) (σ 1 1)) (hm : ∀ j, 0 ≤ j → j < mC (pM (σ 1) 6 v) (pM (σ 1) 7 v) (σ 1 1) → s 9 j = mF (pM (σ 1) 6 v) (pM (σ 1) 7 v) (σ 1 1) j) : ∀ (n : Nat) (i : Int), (n : Int) + i = mC (pM (σ 1) 6 v) (pM (σ 1) 7 v) (σ 1 1) → 0 ≤ i → q_WP mX8_isBalanced shM 7 [some (.inr (.inr 0)), some (.inl v), some (.inl i)] [] (ovM σ s) (fun r σ' => ∃ z, r = some z ∧ (z = .inl (if balL (pM (σ 1) 2) (mF (pM (σ 1) 6 v) (pM (σ 1) 7 v) (σ 1 1)) n i = true then 1 else 0) ∧ σ' = ovM σ s)) := by
  intro n
  induction n with
  | zero =>
    intro i hi h0
    refine q_iload_n (n := 8) dX8_isBalanced_7 rfl rfl ?_
    refine q_aload_n (n := 9) dX8_isBalanced_8 rfl rfl ?_
    refine q_getIE (mC (pM (σ 1) 6 v) (pM (σ 1) 7 v) (σ 1 1)) (kI := 16) (n := 12) (by decide) dX8_isBalanced_9 rfl fX8_218 mi0 rfl rfl hm0 ?_
    refine q_icmp_ge (n := 15) (t := 36) dX8_isBalanced_12 rfl (by decide) (fun h12 => ?_) (fun h12 => ?_)
    · skip
      refine q_iconst (n := 37) dX8_isBalanced_36 rfl (k := ?_)
      refine q_iret dX8_isBalanced_37 rfl (fun _ => rfl) ?_
      exact ⟨_, rfl, rfl, rfl⟩
    · exact absurd h12 (by omega)
  | succ n ih =>
    intro i hi h0
    have ht0 := hI.mem hv (j := i) ⟨h0, by omega⟩
    have hmi := hm i h0 (by omega)
    obtain ⟨t, ht⟩ : ∃ t, t = mF (pM (σ 1) 6 v) (pM (σ 1) 7 v) (σ 1 1) i := ⟨_, rfl⟩
    rw [← ht] at ht0 hmi
    refine q_iload_n (n := 8) dX8_isBalanced_7 rfl rfl ?_
    refine q_aload_n (n := 9) dX8_isBalanced_8 rfl rfl ?_
    refine q_getIE (mC (pM (σ 1) 6 v) (pM (σ 1) 7 v) (σ 1 1)) (kI := 16) (n := 12) (by decide) dX8_isBalanced_9 rfl fX8_218 mi0 rfl rfl hm0 ?_
    refine q_icmp_ge (n := 15) (t := 36) dX8_isBalanced_12 rfl (by decide) (fun h12 => ?_) (fun h12 => ?_)
    · exact absurd h12 (by omega)
    · skip
      refine q_aload_n (n := 16) dX8_isBalanced_15 rfl rfl ?_
      refine q_aload_n (n := 17) dX8_isBalanced_16 rfl rfl ?_
      refine q_getR (n := 20) dX8_isBalanced_17 rfl fX8_48 mi0 rfl ?_
      refine q_iload_n (n := 21) dX8_isBalanced_20 rfl rfl ?_
      refine q_ialoadE (t) (n := 22) dX8_isBalanced_21 rfl mi9 ⟨by omega, by omega⟩ hmi ?_
      refine q_v1D (n := 25) dX8_isBalanced_22 rfl (zX8_turnOf t σ _ hI ht0) vX8_turnOf lX8_109 rfl rfl mi0 rfl ?_
      refine q_if_ne (n := 28) (t := 30) dX8_isBalanced_25 rfl (by decide) (fun h25 => ?_) (fun h25 => ?_)
      · skip
        refine q_iinc (n := 33) dX8_isBalanced_30 rfl (Nat.le_of_ble_eq_true rfl) rfl (q_nwid ⟨by omega, by omega⟩) (q_s1_s (q_s1_1 rfl)) ?_
        refine q_go (t := 7) dX8_isBalanced_33 (by decide) ?_
        rw [balL, ← ht, if_neg (sg_z h25)]
        exact ih (i + 1) (by omega) (by omega)
      · skip
        refine q_iconst (n := 29) dX8_isBalanced_28 rfl (k := ?_)
        refine q_iret dX8_isBalanced_29 rfl (fun _ => rfl) ?_
        exact ⟨_, rfl, by rw [balL, ← ht, if_pos (sg_nz h25)]; rfl, rfl⟩
set_option maxRecDepth 100000 in
theorem zX8_isBalanced (v : Int) (σ s : q_S) (hI : IM σ) (hv : 0 ≤ v ∧ v < σ 1 2) : q_Ct mX8_isBalanced shM [.inr (.inr 0), .inl v] (ovM σ s) (fun r σ' => ∃ z, r = some z ∧ (z = .inl (if balb (pM (σ 1) 2) (σ 1 1) (pM (σ 1) 6 v) (pM (σ 1) 7 v) = true then 1 else 0) ∧ ∃ s', σ' = ovM σ s')) := by
  refine q_ct 1 (by decide) rfl rfl ?_
  show q_WP mX8_isBalanced shM 0 [some (.inr (.inr 0)), some (.inl v), none] [] (ovM σ s) _
  have hn := hI.nt
  have hvv := hI.nv
  have hvt := hI.tie hv
  have hmc := mem_C hn hvt.2.2
  refine q_aload_n (n := 1) dX8_isBalanced_0 rfl rfl ?_
  refine q_iload_n (n := 2) dX8_isBalanced_1 rfl rfl ?_
  refine q_v1W (n := 5) dX8_isBalanced_2 rfl (zX8_tellsThose v σ _ hI hv) vX8_tellsThose lX8_221 rfl rfl mi0 rfl (fun σ2 h2 => ?_)
  obtain ⟨s1, rfl, ⟨hm0, hm⟩, hfr1⟩ := h2
  · skip
    refine q_iconst (n := 6) dX8_isBalanced_5 rfl (k := ?_)
    refine q_istore_n (n := 7) dX8_isBalanced_6 rfl (Nat.le_of_ble_eq_true rfl) (q_s1_s (q_s1_1 rfl)) ?_
    refine (lpX8_ib σ s1 v hI hv hmc.1.2 hm0 hm (mC (pM (σ 1) 6 v) (pM (σ 1) 7 v) (σ 1 1)).toNat 0 (by omega) (by decide)).imp ?_
    rintro r σ2 ⟨z, h1, h2, h3⟩
    exact ⟨z, h1, h2, _, h3⟩
set_option maxHeartbeats 4000000 in
set_option maxRecDepth 100000 in
theorem zX8_adds (x y b a1 o1 a2 o2 A O m B : Int) (σ s : q_S) (hs : s 0 17 = a1 ∧ s 0 18 = o1 ∧ s 0 19 = a2 ∧ s 0 20 = o2) (ho1 : 1 ≤ o1 ∧ o1 ≤ O) (ho2 : 1 ≤ o2 ∧ o2 ≤ O) (hb : 1 ≤ b ∧ b ≤ B) (ha1 : q_bd a1 A) (ha2 : q_bd a2 A) (hx : q_bd x m) (hy : q_bd y m) (h1 : A * B ≤ 4600000000000000000) (h2 : m * O ≤ 4600000000000000000) (h3 : O * B ≤ 4600000000000000000) (hA : 0 ≤ A ∧ 0 ≤ m) (hO : O ≤ 4600000000000000000 ∧ B ≤ 6400 ∧ m ≤ 4600000000000000000 ∧ A ≤ 4600000000000000000) : q_Ct mX8_adds shM [.inr (.inr 0), .inr (.inl x), .inr (.inl y), .inr (.inl b)] (ovM σ s) (fun r σ' => r = none ∧ (∃ s', σ' = ovM σ s' ∧ (s' 0 17 = adS a1 o1 x b ∧ s' 0 18 = adO a1 o1 x b ∧ s' 0 19 = adS a2 o2 y b ∧ s' 0 20 = adO a2 o2 y b) ∧ ∀ c z : Int, ¬ (c = 0 ∧ 17 ≤ z ∧ z ≤ 20) → s' c z = s c z)) := by
  refine q_ct 8 (by decide) rfl rfl ?_
  show q_WP mX8_adds shM 0 [some (.inr (.inr 0)), some (.inr (.inl x)), none, some (.inr (.inl y)), none, some (.inr (.inl b)), none, none, none, none, none, none, none, none, none] [] (ovM σ s) _
  have k1 := ad_ok ho1 hb ha1 hx h1 h2 h3 hA
  have n1 := (gfac (x := adN a1 o1 x b) (b := adM o1 x b) k1.2.2.2.2.2.2.2.2.1.1).1
  have s1 : q_bd (adS a1 o1 x b) (A * B + m * O) := tdiv_le k1.2.2.2.2.2.2.2.1
  have r1 := q_tdiv_lt (x := adM o1 x b) (y := ((Int.gcd (adN a1 o1 x b) (adM o1 x b) : Nat) : Int)) (M := adM o1 x b) (by have := k1.2.2.2.2.2.2.2.2.1.1; omega) (Int.le_refl _)
  have r1 : -adM o1 x b ≤ adO a1 o1 x b ∧ adO a1 o1 x b ≤ adM o1 x b := r1
  unfold q_bd at k1 s1
  have k2 := ad_ok ho2 hb ha2 hy h1 h2 h3 hA
  have n2 := (gfac (x := adN a2 o2 y b) (b := adM o2 y b) k2.2.2.2.2.2.2.2.2.1.1).1
  have s2 : q_bd (adS a2 o2 y b) (A * B + m * O) := tdiv_le k2.2.2.2.2.2.2.2.1
  have r2 := q_tdiv_lt (x := adM o2 y b) (y := ((Int.gcd (adN a2 o2 y b) (adM o2 y b) : Nat) : Int)) (M := adM o2 y b) (by have := k2.2.2.2.2.2.2.2.2.1.1; omega) (Int.le_refl _)
  have r2 : -adM o2 y b ≤ adO a2 o2 y b ∧ adO a2 o2 y b ≤ adM o2 y b := r2
  unfold q_bd at k2 s2
  have hx0 : -9223372036854775808 < x := by unfold q_bd at hx; omega
  have hy0 : -9223372036854775808 < y := by unfold q_bd at hy; omega
  have hob := hb.1
  refine q_lload_n (n := 1) dX8_adds_0 rfl rfl ?_
  refine q_lload (n := 3) dX8_adds_1 rfl rfl ?_
  refine q_c2D (n := 6) dX8_adds_3 rfl (zX8_common _ _ _ _ (by omega) (by omega)) vX8_common lX8_135 rfl rfl ?_
  refine q_lstore (n := 8) dX8_adds_6 rfl (Nat.le_of_ble_eq_true rfl) (q_s2_s (q_s2_s (q_s2_s (q_s2_s (q_s2_s (q_s2_s (q_s2_1 rfl))))))) ?_
  refine q_lload (n := 10) dX8_adds_8 rfl rfl ?_
  refine q_lload (n := 12) dX8_adds_10 rfl rfl ?_
  refine q_ldiv (n := 13) dX8_adds_12 rfl (by omega) ?_
  refine q_topJ (adD x b) (q_W_id (show q_i64 (adD x b) from ⟨by omega, by omega⟩)) ?_
  refine q_lstore (n := 15) dX8_adds_13 rfl (Nat.le_of_ble_eq_true rfl) (q_s2_s (q_s2_s (q_s2_s (q_s2_s (q_s2_s (q_s2_s (q_s2_s (q_s2_s (q_s2_1 rfl))))))))) ?_
  refine q_aload_n (n := 16) dX8_adds_15 rfl rfl ?_
  refine q_getJE (o1) (kI := 18) (n := 19) dX8_adds_16 rfl fX8_224 mi0 rfl rfl hs.2.1 ?_
  refine q_lload (n := 21) dX8_adds_19 rfl rfl ?_
  refine q_c2D (n := 24) dX8_adds_21 rfl (zX8_common _ _ _ _ (by omega) (by omega)) vX8_common lX8_135 rfl rfl ?_
  refine q_topJ (adG o1 x b) rfl ?_
  refine q_lstore (n := 26) dX8_adds_24 rfl (Nat.le_of_ble_eq_true rfl) (q_s2_s (q_s2_s (q_s2_s (q_s2_s (q_s2_s (q_s2_s (q_s2_s (q_s2_s (q_s2_s (q_s2_s (q_s2_1 rfl))))))))))) ?_
  refine q_aload_n (n := 27) dX8_adds_26 rfl rfl ?_
  refine q_aload_n (n := 28) dX8_adds_27 rfl rfl ?_
  refine q_getJE (a1) (kI := 17) (n := 31) dX8_adds_28 rfl fX8_227 mi0 rfl rfl hs.1 ?_
  refine q_lload (n := 33) dX8_adds_31 rfl rfl ?_
  refine q_lload (n := 35) dX8_adds_33 rfl rfl ?_
  refine q_ldiv (n := 36) dX8_adds_35 rfl (by omega) ?_
  refine q_topJ ((adD x b).tdiv (adG o1 x b)) (q_W_id (show q_i64 ((adD x b).tdiv (adG o1 x b)) from ⟨by omega, by omega⟩)) ?_
  refine q_lmulS (n := 37) dX8_adds_36 rfl ⟨by omega, by omega⟩ ?_
  refine q_lload_n (n := 38) dX8_adds_37 rfl rfl ?_
  refine q_lload (n := 40) dX8_adds_38 rfl rfl ?_
  refine q_ldiv (n := 41) dX8_adds_40 rfl (by omega) ?_
  refine q_topJ (x.tdiv ((Int.gcd x b : Nat) : Int)) (q_W_id (show q_i64 (x.tdiv ((Int.gcd x b : Nat) : Int)) from ⟨by omega, by omega⟩)) ?_
  refine q_aload_n (n := 42) dX8_adds_41 rfl rfl ?_
  refine q_getJE (o1) (kI := 18) (n := 45) dX8_adds_42 rfl fX8_224 mi0 rfl rfl hs.2.1 ?_
  refine q_lload (n := 47) dX8_adds_45 rfl rfl ?_
  refine q_ldiv (n := 48) dX8_adds_47 rfl (by omega) ?_
  refine q_topJ (o1.tdiv (adG o1 x b)) (q_W_id (show q_i64 (o1.tdiv (adG o1 x b)) from ⟨by omega, by omega⟩)) ?_
  refine q_lmulS (n := 49) dX8_adds_48 rfl ⟨by omega, by omega⟩ ?_
  refine q_laddS (n := 50) dX8_adds_49 rfl (show q_i64 (adN a1 o1 x b) from ⟨by omega, by omega⟩) ?_
  refine q_topJ (adN a1 o1 x b) rfl ?_
  refine q_putJ (kI := 17) (n := 53) dX8_adds_50 rfl pX8_227 mi0 rfl rfl ?_
  rw [om_up rfl]
  refine q_aload_n (n := 54) dX8_adds_53 rfl rfl ?_
  refine q_aload_n (n := 55) dX8_adds_54 rfl rfl ?_
  refine q_getJE (o1) (kI := 18) (n := 58) dX8_adds_55 rfl fX8_224 mi0 rfl rfl hs.2.1 ?_
  refine q_lload (n := 60) dX8_adds_58 rfl rfl ?_
  refine q_ldiv (n := 61) dX8_adds_60 rfl (by omega) ?_
  refine q_topJ (o1.tdiv (adG o1 x b)) (q_W_id (show q_i64 (o1.tdiv (adG o1 x b)) from ⟨by omega, by omega⟩)) ?_
  refine q_lload (n := 63) dX8_adds_61 rfl rfl ?_
  refine q_lmulS (n := 64) dX8_adds_63 rfl (show q_i64 (adM o1 x b) from ⟨by omega, by omega⟩) ?_
  refine q_topJ (adM o1 x b) rfl ?_
  refine q_putJ (kI := 18) (n := 67) dX8_adds_64 rfl pX8_224 mi0 rfl rfl ?_
  rw [om_up rfl]
  refine q_aload_n (n := 68) dX8_adds_67 rfl rfl ?_
  refine q_getJE (adN a1 o1 x b) (kI := 17) (n := 71) dX8_adds_68 rfl fX8_227 mi0 rfl rfl rfl ?_
  refine q_aload_n (n := 72) dX8_adds_71 rfl rfl ?_
  refine q_getJE (adM o1 x b) (kI := 18) (n := 75) dX8_adds_72 rfl fX8_224 mi0 rfl rfl rfl ?_
  refine q_c2D (n := 78) dX8_adds_75 rfl (zX8_common _ _ _ _ (by omega) (by omega)) vX8_common lX8_135 rfl rfl ?_
  refine q_lstore (n := 80) dX8_adds_78 rfl (Nat.le_of_ble_eq_true rfl) (q_s2_s (q_s2_s (q_s2_s (q_s2_s (q_s2_s (q_s2_s (q_s2_s (q_s2_s (q_s2_s (q_s2_s (q_s2_1 rfl))))))))))) ?_
  refine q_aload_n (n := 81) dX8_adds_80 rfl rfl ?_
  refine q_dup (n := 82) dX8_adds_81 rfl rfl ?_
  refine q_getJE (adN a1 o1 x b) (kI := 17) (n := 85) dX8_adds_82 rfl fX8_227 mi0 rfl rfl rfl ?_
  refine q_lload (n := 87) dX8_adds_85 rfl rfl ?_
  refine q_ldiv (n := 88) dX8_adds_87 rfl (by omega) ?_
  refine q_topJ (adS a1 o1 x b) (q_W_id (show q_i64 (adS a1 o1 x b) from ⟨by omega, by omega⟩)) ?_
  refine q_putJ (kI := 17) (n := 91) dX8_adds_88 rfl pX8_227 mi0 rfl rfl ?_
  rw [om_up rfl]
  refine q_aload_n (n := 92) dX8_adds_91 rfl rfl ?_
  refine q_dup (n := 93) dX8_adds_92 rfl rfl ?_
  refine q_getJE (adM o1 x b) (kI := 18) (n := 96) dX8_adds_93 rfl fX8_224 mi0 rfl rfl rfl ?_
  refine q_lload (n := 98) dX8_adds_96 rfl rfl ?_
  refine q_ldiv (n := 99) dX8_adds_98 rfl (by omega) ?_
  refine q_topJ (adO a1 o1 x b) (q_W_id (show q_i64 (adO a1 o1 x b) from ⟨by omega, by omega⟩)) ?_
  refine q_putJ (kI := 18) (n := 102) dX8_adds_99 rfl pX8_224 mi0 rfl rfl ?_
  rw [om_up rfl]
  refine q_lload_n (n := 103) dX8_adds_102 rfl rfl ?_
  refine q_lload (n := 105) dX8_adds_103 rfl rfl ?_
  refine q_c2D (n := 108) dX8_adds_105 rfl (zX8_common _ _ _ _ (by omega) (by omega)) vX8_common lX8_135 rfl rfl ?_
  refine q_lstore (n := 110) dX8_adds_108 rfl (Nat.le_of_ble_eq_true rfl) (q_s2_s (q_s2_s (q_s2_s (q_s2_s (q_s2_s (q_s2_s (q_s2_1 rfl))))))) ?_
  refine q_lload (n := 112) dX8_adds_110 rfl rfl ?_
  refine q_lload (n := 114) dX8_adds_112 rfl rfl ?_
  refine q_ldiv (n := 115) dX8_adds_114 rfl (by omega) ?_
  refine q_topJ (adD y b) (q_W_id (show q_i64 (adD y b) from ⟨by omega, by omega⟩)) ?_
  refine q_lstore (n := 117) dX8_adds_115 rfl (Nat.le_of_ble_eq_true rfl) (q_s2_s (q_s2_s (q_s2_s (q_s2_s (q_s2_s (q_s2_s (q_s2_s (q_s2_s (q_s2_s (q_s2_s (q_s2_s (q_s2_s (q_s2_1 rfl))))))))))))) ?_
  refine q_aload_n (n := 118) dX8_adds_117 rfl rfl ?_
  refine q_getJE (o2) (kI := 20) (n := 121) dX8_adds_118 rfl fX8_230 mi0 rfl rfl hs.2.2.2 ?_
  refine q_lload (n := 123) dX8_adds_121 rfl rfl ?_
  refine q_c2D (n := 126) dX8_adds_123 rfl (zX8_common _ _ _ _ (by omega) (by omega)) vX8_common lX8_135 rfl rfl ?_
  refine q_topJ (adG o2 y b) rfl ?_
  refine q_lstore (n := 128) dX8_adds_126 rfl (Nat.le_of_ble_eq_true rfl) (q_s2_s (q_s2_s (q_s2_s (q_s2_s (q_s2_s (q_s2_s (q_s2_s (q_s2_s (q_s2_s (q_s2_s (q_s2_1 rfl))))))))))) ?_
  refine q_aload_n (n := 129) dX8_adds_128 rfl rfl ?_
  refine q_aload_n (n := 130) dX8_adds_129 rfl rfl ?_
  refine q_getJE (a2) (kI := 19) (n := 133) dX8_adds_130 rfl fX8_233 mi0 rfl rfl hs.2.2.1 ?_
  refine q_lload (n := 135) dX8_adds_133 rfl rfl ?_
  refine q_lload (n := 137) dX8_adds_135 rfl rfl ?_
  refine q_ldiv (n := 138) dX8_adds_137 rfl (by omega) ?_
  refine q_topJ ((adD y b).tdiv (adG o2 y b)) (q_W_id (show q_i64 ((adD y b).tdiv (adG o2 y b)) from ⟨by omega, by omega⟩)) ?_
  refine q_lmulS (n := 139) dX8_adds_138 rfl ⟨by omega, by omega⟩ ?_
  refine q_lload_n (n := 140) dX8_adds_139 rfl rfl ?_
  refine q_lload (n := 142) dX8_adds_140 rfl rfl ?_
  refine q_ldiv (n := 143) dX8_adds_142 rfl (by omega) ?_
  refine q_topJ (y.tdiv ((Int.gcd y b : Nat) : Int)) (q_W_id (show q_i64 (y.tdiv ((Int.gcd y b : Nat) : Int)) from ⟨by omega, by omega⟩)) ?_
  refine q_aload_n (n := 144) dX8_adds_143 rfl rfl ?_
  refine q_getJE (o2) (kI := 20) (n := 147) dX8_adds_144 rfl fX8_230 mi0 rfl rfl hs.2.2.2 ?_
  refine q_lload (n := 149) dX8_adds_147 rfl rfl ?_
  refine q_ldiv (n := 150) dX8_adds_149 rfl (by omega) ?_
  refine q_topJ (o2.tdiv (adG o2 y b)) (q_W_id (show q_i64 (o2.tdiv (adG o2 y b)) from ⟨by omega, by omega⟩)) ?_
  refine q_lmulS (n := 151) dX8_adds_150 rfl ⟨by omega, by omega⟩ ?_
  refine q_laddS (n := 152) dX8_adds_151 rfl (show q_i64 (adN a2 o2 y b) from ⟨by omega, by omega⟩) ?_
  refine q_topJ (adN a2 o2 y b) rfl ?_
  refine q_putJ (kI := 19) (n := 155) dX8_adds_152 rfl pX8_233 mi0 rfl rfl ?_
  rw [om_up rfl]
  refine q_aload_n (n := 156) dX8_adds_155 rfl rfl ?_
  refine q_aload_n (n := 157) dX8_adds_156 rfl rfl ?_
  refine q_getJE (o2) (kI := 20) (n := 160) dX8_adds_157 rfl fX8_230 mi0 rfl rfl hs.2.2.2 ?_
  refine q_lload (n := 162) dX8_adds_160 rfl rfl ?_
  refine q_ldiv (n := 163) dX8_adds_162 rfl (by omega) ?_
  refine q_topJ (o2.tdiv (adG o2 y b)) (q_W_id (show q_i64 (o2.tdiv (adG o2 y b)) from ⟨by omega, by omega⟩)) ?_
  refine q_lload (n := 165) dX8_adds_163 rfl rfl ?_
  refine q_lmulS (n := 166) dX8_adds_165 rfl (show q_i64 (adM o2 y b) from ⟨by omega, by omega⟩) ?_
  refine q_topJ (adM o2 y b) rfl ?_
  refine q_putJ (kI := 20) (n := 169) dX8_adds_166 rfl pX8_230 mi0 rfl rfl ?_
  rw [om_up rfl]
  refine q_aload_n (n := 170) dX8_adds_169 rfl rfl ?_
  refine q_getJE (adN a2 o2 y b) (kI := 19) (n := 173) dX8_adds_170 rfl fX8_233 mi0 rfl rfl rfl ?_
  refine q_aload_n (n := 174) dX8_adds_173 rfl rfl ?_
  refine q_getJE (adM o2 y b) (kI := 20) (n := 177) dX8_adds_174 rfl fX8_230 mi0 rfl rfl rfl ?_
  refine q_c2D (n := 180) dX8_adds_177 rfl (zX8_common _ _ _ _ (by omega) (by omega)) vX8_common lX8_135 rfl rfl ?_
  refine q_lstore (n := 182) dX8_adds_180 rfl (Nat.le_of_ble_eq_true rfl) (q_s2_s (q_s2_s (q_s2_s (q_s2_s (q_s2_s (q_s2_s (q_s2_s (q_s2_s (q_s2_s (q_s2_s (q_s2_1 rfl))))))))))) ?_
  refine q_aload_n (n := 183) dX8_adds_182 rfl rfl ?_
  refine q_dup (n := 184) dX8_adds_183 rfl rfl ?_
  refine q_getJE (adN a2 o2 y b) (kI := 19) (n := 187) dX8_adds_184 rfl fX8_233 mi0 rfl rfl rfl ?_
  refine q_lload (n := 189) dX8_adds_187 rfl rfl ?_
  refine q_ldiv (n := 190) dX8_adds_189 rfl (by omega) ?_
  refine q_topJ (adS a2 o2 y b) (q_W_id (show q_i64 (adS a2 o2 y b) from ⟨by omega, by omega⟩)) ?_
  refine q_putJ (kI := 19) (n := 193) dX8_adds_190 rfl pX8_233 mi0 rfl rfl ?_
  rw [om_up rfl]
  refine q_aload_n (n := 194) dX8_adds_193 rfl rfl ?_
  refine q_dup (n := 195) dX8_adds_194 rfl rfl ?_
  refine q_getJE (adM o2 y b) (kI := 20) (n := 198) dX8_adds_195 rfl fX8_230 mi0 rfl rfl rfl ?_
  refine q_lload (n := 200) dX8_adds_198 rfl rfl ?_
  refine q_ldiv (n := 201) dX8_adds_200 rfl (by omega) ?_
  refine q_topJ (adO a2 o2 y b) (q_W_id (show q_i64 (adO a2 o2 y b) from ⟨by omega, by omega⟩)) ?_
  refine q_putJ (kI := 20) (n := 204) dX8_adds_201 rfl pX8_230 mi0 rfl rfl ?_
  rw [om_up rfl]
  refine q_vret dX8_adds_204 rfl ?_
  refine ⟨rfl, _, rfl, ⟨rfl, rfl, rfl, rfl⟩, fun c z hc => ?_⟩
  rw [q_up_n (by omega), q_up_n (by omega), q_up_n (by omega), q_up_n (by omega), q_up_n (by omega), q_up_n (by omega), q_up_n (by omega), q_up_n (by omega)]
