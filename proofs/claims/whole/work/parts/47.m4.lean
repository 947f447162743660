theorem mlp_ge {o : Int} {n : Nat} {i f : Int} {g : Int → Int} (h : ¬ f < 4) : mlp o n i f g = (f, g) := by
  match n with
  | 0 => rfl
  | n + 1 => rw [mlp, if_neg h]
set_option maxRecDepth 100000 in
theorem lpX8_tt (σ : q_S) (v : Int) (hv4 : 0 ≤ v ∧ v < 4) (hn : 0 ≤ σ 1 1 ∧ σ 1 1 ≤ 8) : ∀ (n : Nat) (i f : Int) (g : Int → Int) (s : q_S), (n : Int) + i = σ 1 1 → 0 ≤ i → 0 ≤ f → s 0 16 = f → s 9 = g → f + nbL (pM (σ 1) 7 v) n i ≤ 4 → q_WP mX8_tellsThose shM 33 [some (.inr (.inr 0)), some (.inl v), some (.inl i)] [] (ovM σ s) (fun r σ' => r = none ∧ (∃ s', σ' = ovM σ s' ∧ s' 0 16 = (mlp (pM (σ 1) 7 v) n i f g).1 ∧ s' 9 = (mlp (pM (σ 1) 7 v) n i f g).2 ∧ ∀ c x : Int, c ≠ 9 → ¬ (c = 0 ∧ x = 16) → s' c x = s c x)) := by
  intro n
  induction n with
  | zero =>
    intro i f g s hi h0 hf0 hf hg hb
    refine q_iload_n (n := 34) dX8_tellsThose_33 rfl rfl ?_
    refine q_aload_n (n := 35) dX8_tellsThose_34 rfl rfl ?_
    refine q_getR (n := 38) dX8_tellsThose_35 rfl fX8_23 mi0 rfl ?_
    refine q_iconst (n := 39) dX8_tellsThose_38 rfl (k := ?_)
    refine q_ialoadF (σ 1) (n := 40) dX8_tellsThose_39 rfl mi1 ⟨by omega, by omega⟩ rfl ?_
    refine q_icmp_ge (n := 43) (t := 82) dX8_tellsThose_40 rfl (by decide) (fun h40 => ?_) (fun h40 => ?_)
    · skip
      refine q_vret dX8_tellsThose_82 rfl ?_
      exact ⟨rfl, s, rfl, hf, hg, fun _ _ _ _ => rfl⟩
    · exact absurd h40 (by omega)
  | succ n ih =>
    intro i f g s hi h0 hf0 hf hg hb
    have hnb := nbL_0 (o := (pM (σ 1) 7 v)) n (i + 1)
    rw [nbL] at hb
    refine q_iload_n (n := 34) dX8_tellsThose_33 rfl rfl ?_
    refine q_aload_n (n := 35) dX8_tellsThose_34 rfl rfl ?_
    refine q_getR (n := 38) dX8_tellsThose_35 rfl fX8_23 mi0 rfl ?_
    refine q_iconst (n := 39) dX8_tellsThose_38 rfl (k := ?_)
    refine q_ialoadF (σ 1) (n := 40) dX8_tellsThose_39 rfl mi1 ⟨by omega, by omega⟩ rfl ?_
    refine q_icmp_ge (n := 43) (t := 82) dX8_tellsThose_40 rfl (by decide) (fun h40 => ?_) (fun h40 => ?_)
    · exact absurd h40 (by omega)
    · skip
      refine q_aload_n (n := 44) dX8_tellsThose_43 rfl rfl ?_
      refine q_iload_n (n := 45) dX8_tellsThose_44 rfl rfl ?_
      refine q_iconst (n := 46) dX8_tellsThose_45 rfl (k := ?_)
      refine q_v2D (n := 49) dX8_tellsThose_46 rfl (zX8_vertexAt _ _ σ _ (by omega) (by omega)) vX8_vertexAt lX8_185 rfl rfl mi0 rfl ?_
      refine q_iload_n (n := 50) dX8_tellsThose_49 rfl rfl ?_
      refine q_c2D (n := 53) dX8_tellsThose_50 rfl (zX8_has _ _ _ _) vX8_has lX8_170 rfl rfl ?_
      refine q_if_eq (n := 56) (t := 76) dX8_tellsThose_53 rfl (by decide) (fun h53 => ?_) (fun h53 => ?_)
      · have h53 : ¬ q_and (q_shr (pM (σ 1) 7 v) i) 1 = 1 := q_b0.mp h53
        rw [if_neg h53] at hb
        skip
        refine q_iinc (n := 79) dX8_tellsThose_76 rfl (Nat.le_of_ble_eq_true rfl) rfl (q_nwid ⟨by omega, by omega⟩) (q_s1_s (q_s1_1 rfl)) ?_
        refine q_go (t := 33) dX8_tellsThose_79 (by decide) ?_
        first
          | (rw [om_up rfl, mlp, if_pos (by omega), if_pos h53]
             refine (ih (i + 1) (f + 1) (fun j => if j = f then i else g j) _ (by omega) (by omega) (by omega) q_up_s (by rw [q_up_o (by decide), q_up_c, hg]) (by omega)).imp ?_
             rintro r σ2 ⟨h1, s2, h2, h3, h4, h5⟩
             exact ⟨h1, s2, h2, h3, h4, fun c x h6 h7 => by rw [h5 c x h6 h7, q_up_n h7, q_up_n (fun z => h6 z.1)]⟩)
          | (have e : mlp (pM (σ 1) 7 v) (n + 1) i f g = mlp (pM (σ 1) 7 v) n (i + 1) f g := by
               rw [mlp, if_neg h53]
               by_cases z : f < 4
               · rw [if_pos z]
               · rw [if_neg z, mlp_ge z]
             rw [e]
             exact ih (i + 1) f g s (by omega) (by omega) hf0 hf hg (by omega))
      · have h53 : q_and (q_shr (pM (σ 1) 7 v) i) 1 = 1 := q_b1.mp h53
        rw [if_pos h53] at hb
        refine q_aload_n (n := 57) dX8_tellsThose_56 rfl rfl ?_
        refine q_getR (n := 60) dX8_tellsThose_57 rfl fX8_48 mi0 rfl ?_
        refine q_aload_n (n := 61) dX8_tellsThose_60 rfl rfl ?_
        refine q_getIE (f) (kI := 16) (n := 64) (by decide) dX8_tellsThose_61 rfl fX8_218 mi0 rfl rfl hf ?_
        refine q_iload_n (n := 65) dX8_tellsThose_64 rfl rfl ?_
        refine q_iastore (n := 66) dX8_tellsThose_65 rfl mi9 ⟨by omega, by omega⟩ ?_
        rw [om_up rfl]
        refine q_aload_n (n := 67) dX8_tellsThose_66 rfl rfl ?_
        refine q_dup (n := 68) dX8_tellsThose_67 rfl rfl ?_
        refine q_getIE (f) (kI := 16) (n := 71) (by decide) dX8_tellsThose_68 rfl fX8_218 mi0 rfl rfl hf ?_
        refine q_iconst (n := 72) dX8_tellsThose_71 rfl (k := ?_)
        refine q_iaddS (n := 73) dX8_tellsThose_72 rfl ⟨by omega, by omega⟩ ?_
        refine q_putI (kI := 16) (n := 76) dX8_tellsThose_73 rfl pX8_218 mi0 rfl rfl ?_
        skip
        refine q_iinc (n := 79) dX8_tellsThose_76 rfl (Nat.le_of_ble_eq_true rfl) rfl (q_nwid ⟨by omega, by omega⟩) (q_s1_s (q_s1_1 rfl)) ?_
        refine q_go (t := 33) dX8_tellsThose_79 (by decide) ?_
        first
          | (rw [om_up rfl, mlp, if_pos (by omega), if_pos h53]
             refine (ih (i + 1) (f + 1) (fun j => if j = f then i else g j) _ (by omega) (by omega) (by omega) q_up_s (by rw [q_up_o (by decide), q_up_c, hg]) (by omega)).imp ?_
             rintro r σ2 ⟨h1, s2, h2, h3, h4, h5⟩
             exact ⟨h1, s2, h2, h3, h4, fun c x h6 h7 => by rw [h5 c x h6 h7, q_up_n h7, q_up_n (fun z => h6 z.1)]⟩)
          | (have e : mlp (pM (σ 1) 7 v) (n + 1) i f g = mlp (pM (σ 1) 7 v) n (i + 1) f g := by
               rw [mlp, if_neg h53]
               by_cases z : f < 4
               · rw [if_pos z]
               · rw [if_neg z, mlp_ge z]
             rw [e]
             exact ih (i + 1) f g s (by omega) (by omega) hf0 hf hg (by omega))
set_option maxRecDepth 100000 in
theorem zX8_tellsThose (v : Int) (σ s : q_S) (hI : IM σ) (hv : 0 ≤ v ∧ v < σ 1 2) : q_Ct mX8_tellsThose shM [.inr (.inr 0), .inl v] (ovM σ s) (fun r σ' => r = none ∧ (∃ s', σ' = ovM σ s' ∧ (s' 0 16 = mC (pM (σ 1) 6 v) (pM (σ 1) 7 v) (σ 1 1) ∧ (∀ j, 0 ≤ j → j < mC (pM (σ 1) 6 v) (pM (σ 1) 7 v) (σ 1 1) → s' 9 j = mF (pM (σ 1) 6 v) (pM (σ 1) 7 v) (σ 1 1) j)) ∧ ∀ c x : Int, c ≠ 9 → ¬ (c = 0 ∧ x = 16) → s' c x = s c x)) := by
  refine q_ct 1 (by decide) rfl rfl ?_
  show q_WP mX8_tellsThose shM 0 [some (.inr (.inr 0)), some (.inl v), none] [] (ovM σ s) _
  have hn := hI.nt
  have hvv := hI.nv
  have hvt := hI.tie hv
  have hmc := mem_C hn hvt.2.2
  have hbb := tie_bits hn hvt.2.2
  have ha0 : σ 1 (59 + 4 * v + 2) = -1 ∨ 0 ≤ σ 1 (59 + 4 * v + 2) := by
    have h : σ 1 (59 + 4 * v + 2) = -1 ∨ 0 ≤ σ 1 (59 + 4 * v + 2) ∧ σ 1 (59 + 4 * v + 2) < σ 1 1 := hvt.2.2.1
    omega
  refine q_aload_n (n := 1) dX8_tellsThose_0 rfl rfl ?_
  refine q_iconst (n := 2) dX8_tellsThose_1 rfl (k := ?_)
  refine q_putI (kI := 16) (n := 5) dX8_tellsThose_2 rfl pX8_218 mi0 rfl rfl ?_
  rw [om_up rfl]
  refine q_aload_n (n := 6) dX8_tellsThose_5 rfl rfl ?_
  refine q_iload_n (n := 7) dX8_tellsThose_6 rfl rfl ?_
  refine q_iconst (n := 8) dX8_tellsThose_7 rfl (k := ?_)
  refine q_v2D (n := 11) dX8_tellsThose_8 rfl (zX8_vertexAt _ _ σ _ ⟨by omega, by omega⟩ (by decide)) vX8_vertexAt lX8_185 rfl rfl mi0 rfl ?_
  refine q_if_lt (n := 14) (t := 31) dX8_tellsThose_11 rfl (by decide) (fun h11 => ?_) (fun h11 => ?_)
  · skip
    skip
    refine q_iconst (n := 32) dX8_tellsThose_31 rfl (k := ?_)
    refine q_istore_n (n := 33) dX8_tellsThose_32 rfl (Nat.le_of_ble_eq_true rfl) (q_s1_s (q_s1_1 rfl)) ?_
    first
      | (rw [om_up rfl]
         have ha : ¬ (pM (σ 1) 6 v) = -1 := by
           show ¬ σ 1 (59 + 4 * v + 2) = -1
           omega
         have hm := mem_g hn hvt.2.2 (q_up s 0 16 0 9)
         have em : mem0 (pM (σ 1) 6 v) (pM (σ 1) 7 v) (σ 1 1) (q_up s 0 16 0 9) = mlp (pM (σ 1) 7 v) (σ 1 1).toNat 0 1 (fun j => if j = 0 then (pM (σ 1) 6 v) else q_up s 0 16 0 9 j) := if_neg ha
         refine (lpX8_tt σ v (by omega) hn (σ 1 1).toNat 0 1 (fun j => if j = 0 then (pM (σ 1) 6 v) else q_up s 0 16 0 9 j) _ (by omega) (by decide) (by decide) q_up_s (by rw [q_up_o (by decide), q_up_c]; rfl) (by omega)).imp ?_
         rintro r σ2 ⟨h1, s2, h2, h3, h4, h5⟩
         rw [← em] at h3 h4
         refine ⟨h1, s2, h2, ⟨by rw [h3]; exact hm.1, fun j a b => by rw [h4]; exact hm.2 j a b⟩, fun c x h6 h7 => ?_⟩
         rw [h5 c x h6 h7, q_up_n h7, q_up_n (fun z => h6 z.1), q_up_n h7])
      | (have ha : (pM (σ 1) 6 v) = -1 := by
           show σ 1 (59 + 4 * v + 2) = -1
           omega
         have hm := mem_g hn hvt.2.2 (q_up s 0 16 0 9)
         have em : mem0 (pM (σ 1) 6 v) (pM (σ 1) 7 v) (σ 1 1) (q_up s 0 16 0 9) = mlp (pM (σ 1) 7 v) (σ 1 1).toNat 0 0 (q_up s 0 16 0 9) := if_pos ha
         refine (lpX8_tt σ v (by omega) hn (σ 1 1).toNat 0 0 (q_up s 0 16 0 9) _ (by omega) (by decide) (by decide) q_up_s rfl (by omega)).imp ?_
         rintro r σ2 ⟨h1, s2, h2, h3, h4, h5⟩
         rw [← em] at h3 h4
         refine ⟨h1, s2, h2, ⟨by rw [h3]; exact hm.1, fun j a b => by rw [h4]; exact hm.2 j a b⟩, fun c x h6 h7 => ?_⟩
         rw [h5 c x h6 h7, q_up_n h7])
  · skip
    refine q_aload_n (n := 15) dX8_tellsThose_14 rfl rfl ?_
    refine q_getR (n := 18) dX8_tellsThose_15 rfl fX8_48 mi0 rfl ?_
    refine q_iconst (n := 19) dX8_tellsThose_18 rfl (k := ?_)
    refine q_aload_n (n := 20) dX8_tellsThose_19 rfl rfl ?_
    refine q_iload_n (n := 21) dX8_tellsThose_20 rfl rfl ?_
    refine q_iconst (n := 22) dX8_tellsThose_21 rfl (k := ?_)
    refine q_v2D (n := 25) dX8_tellsThose_22 rfl (zX8_vertexAt _ _ σ _ ⟨by omega, by omega⟩ (by decide)) vX8_vertexAt lX8_185 rfl rfl mi0 rfl ?_
    refine q_iastore (n := 26) dX8_tellsThose_25 rfl mi9 ⟨by omega, by omega⟩ ?_
    rw [om_up rfl]
    refine q_aload_n (n := 27) dX8_tellsThose_26 rfl rfl ?_
    refine q_iconst (n := 28) dX8_tellsThose_27 rfl (k := ?_)
    refine q_putI (kI := 16) (n := 31) dX8_tellsThose_28 rfl pX8_218 mi0 rfl rfl ?_
    skip
    refine q_iconst (n := 32) dX8_tellsThose_31 rfl (k := ?_)
    refine q_istore_n (n := 33) dX8_tellsThose_32 rfl (Nat.le_of_ble_eq_true rfl) (q_s1_s (q_s1_1 rfl)) ?_
    first
      | (rw [om_up rfl]
         have ha : ¬ (pM (σ 1) 6 v) = -1 := by
           show ¬ σ 1 (59 + 4 * v + 2) = -1
           omega
         have hm := mem_g hn hvt.2.2 (q_up s 0 16 0 9)
         have em : mem0 (pM (σ 1) 6 v) (pM (σ 1) 7 v) (σ 1 1) (q_up s 0 16 0 9) = mlp (pM (σ 1) 7 v) (σ 1 1).toNat 0 1 (fun j => if j = 0 then (pM (σ 1) 6 v) else q_up s 0 16 0 9 j) := if_neg ha
         refine (lpX8_tt σ v (by omega) hn (σ 1 1).toNat 0 1 (fun j => if j = 0 then (pM (σ 1) 6 v) else q_up s 0 16 0 9 j) _ (by omega) (by decide) (by decide) q_up_s (by rw [q_up_o (by decide), q_up_c]; rfl) (by omega)).imp ?_
         rintro r σ2 ⟨h1, s2, h2, h3, h4, h5⟩
         rw [← em] at h3 h4
         refine ⟨h1, s2, h2, ⟨by rw [h3]; exact hm.1, fun j a b => by rw [h4]; exact hm.2 j a b⟩, fun c x h6 h7 => ?_⟩
         rw [h5 c x h6 h7, q_up_n h7, q_up_n (fun z => h6 z.1), q_up_n h7])
      | (have ha : (pM (σ 1) 6 v) = -1 := by
           show σ 1 (59 + 4 * v + 2) = -1
           omega
         have hm := mem_g hn hvt.2.2 (q_up s 0 16 0 9)
         have em : mem0 (pM (σ 1) 6 v) (pM (σ 1) 7 v) (σ 1 1) (q_up s 0 16 0 9) = mlp (pM (σ 1) 7 v) (σ 1 1).toNat 0 0 (q_up s 0 16 0 9) := if_pos ha
         refine (lpX8_tt σ v (by omega) hn (σ 1 1).toNat 0 0 (q_up s 0 16 0 9) _ (by omega) (by decide) (by decide) q_up_s rfl (by omega)).imp ?_
         rintro r σ2 ⟨h1, s2, h2, h3, h4, h5⟩
         rw [← em] at h3 h4
         refine ⟨h1, s2, h2, ⟨by rw [h3]; exact hm.1, fun j a b => by rw [h4]; exact hm.2 j a b⟩, fun c x h6 h7 => ?_⟩
         rw [h5 c x h6 h7, q_up_n h7])
theorem IM.mem {σ : q_S} (h : IM σ) {v j : Int} (hv : 0 ≤ v ∧ v < σ 1 2) (hj : 0 ≤ j ∧ j < mC (pM (σ 1) 6 v) (pM (σ 1) 7 v) (σ 1 1)) : 0 ≤ mF (pM (σ 1) 6 v) (pM (σ 1) 7 v) (σ 1 1) j ∧ mF (pM (σ 1) 6 v) (pM (σ 1) 7 v) (σ 1 1) j < σ 1 1 := (mem_F h.nt (h.tie hv).2.2).1 j hj.1 hj.2
set_option maxRecDepth 100000 in
theorem lpX8_ib (σ s : q_S) (v : Int) (hI : IM σ) (hv : 0 ≤ v ∧ v < σ 1 2) (hc : mC (pM (σ 1) 6 v) (pM (σ 1) 7 v) (σ 1 1) ≤ 4) (hm0 : s 0 16 = mC (pM (σ 1) 6 v) (pM (σ 1) 7 v) (σ 1 1)) (hm : ∀ j, 0 ≤ j → j < mC (pM (σ 1) 6 v) (pM (σ 1) 7 v) (σ 1 1) → s 9 j = mF (pM (σ 1) 6 v) (pM (σ 1) 7 v) (σ 1 1) j) : ∀ (n : Nat) (i : Int), (n : Int) + i = mC (pM (σ 1) 6 v) (pM (σ 1) 7 v) (σ 1 1) → 0 ≤ i → q_WP mX8_isBalanced shM 7 [some (.inr (.inr 0)), some (.inl v), some (.inl i)] [] (ovM σ s) (fun r σ' => ∃ z, r = some z ∧ (z = .inl (if balL (pM (σ 1) 2) (mF (pM (σ 1) 6 v) (pM (σ 1) 7 v) (σ 1 1)) n i = true then 1 else 0) ∧ σ' = ovM σ s)) := by
  intro n
  induction n with
  | zero =>
    intro i hi h0
    refine q_iload_n (n := 8) dX8_isBalanced_7 rfl rfl ?_
    refine q_aload_n (n := 9) dX8_isBalanced_8 rfl rfl ?_
    refine q_getIE (mC (pM (σ 1) 6 v) (pM (σ 1) 7 v) (σ 1 1)) (kI := 16) (n := 12) (by decide) dX8_isBalanced_9 rfl fX8_218 mi0 rfl rfl hm0 ?_
    refine q_icmp_ge (n := 15) (t := 36) dX8_isBalanced_12 rfl (by decide) (fun h12 => ?_) (fun h12 => ?_)
    · skip
      refine q_iconst (n := 37) dX8_isBalanced_36 rfl (k := ?_)
      refine q_iret dX8_isBalanced_37 rfl (fun _ => rfl) ?_
      exact ⟨_, rfl, rfl, rfl⟩
    · exact absurd h12 (by omega)
  | succ n ih =>
    intro i hi h0
    have ht0 := hI.mem hv (j := i) ⟨h0, by omega⟩
    have hmi := hm i h0 (by omega)
    obtain ⟨t, ht⟩ : ∃ t, t = mF (pM (σ 1) 6 v) (pM (σ 1) 7 v) (σ 1 1) i := ⟨_, rfl⟩
    rw [← ht] at ht0 hmi
    refine q_iload_n (n := 8) dX8_isBalanced_7 rfl rfl ?_
    refine q_aload_n (n := 9) dX8_isBalanced_8 rfl rfl ?_
    refine q_getIE (mC (pM (σ 1) 6 v) (pM (σ 1) 7 v) (σ 1 1)) (kI := 16) (n := 12) (by decide) dX8_isBalanced_9 rfl fX8_218 mi0 rfl rfl hm0 ?_
    refine q_icmp_ge (n := 15) (t := 36) dX8_isBalanced_12 rfl (by decide) (fun h12 => ?_) (fun h12 => ?_)
    · exact absurd h12 (by omega)
    · skip
      refine q_aload_n (n := 16) dX8_isBalanced_15 rfl rfl ?_
      refine q_aload_n (n := 17) dX8_isBalanced_16 rfl rfl ?_
      refine q_getR (n := 20) dX8_isBalanced_17 rfl fX8_48 mi0 rfl ?_
      refine q_iload_n (n := 21) dX8_isBalanced_20 rfl rfl ?_
      refine q_ialoadE (t) (n := 22) dX8_isBalanced_21 rfl mi9 ⟨by omega, by omega⟩ hmi ?_
      refine q_v1D (n := 25) dX8_isBalanced_22 rfl (zX8_turnOf t σ _ hI ht0) vX8_turnOf lX8_109 rfl rfl mi0 rfl ?_
      refine q_if_ne (n := 28) (t := 30) dX8_isBalanced_25 rfl (by decide) (fun h25 => ?_) (fun h25 => ?_)
      · skip
        refine q_iinc (n := 33) dX8_isBalanced_30 rfl (Nat.le_of_ble_eq_true rfl) rfl (q_nwid ⟨by omega, by omega⟩) (q_s1_s (q_s1_1 rfl)) ?_
        refine q_go (t := 7) dX8_isBalanced_33 (by decide) ?_
        rw [balL, ← ht, if_neg (sg_z h25)]
        exact ih (i + 1) (by omega) (by omega)
      · skip
        refine q_iconst (n := 29) dX8_isBalanced_28 rfl (k := ?_)
        refine q_iret dX8_isBalanced_29 rfl (fun _ => rfl) ?_
        exact ⟨_, rfl, by rw [balL, ← ht, if_pos (sg_nz h25)]; rfl, rfl⟩
set_option maxRecDepth 100000 in
theorem zX8_isBalanced (v : Int) (σ s : q_S) (hI : IM σ) (hv : 0 ≤ v ∧ v < σ 1 2) : q_Ct mX8_isBalanced shM [.inr (.inr 0), .inl v] (ovM σ s) (fun r σ' => ∃ z, r = some z ∧ (z = .inl (if balb (pM (σ 1) 2) (σ 1 1) (pM (σ 1) 6 v) (pM (σ 1) 7 v) = true then 1 else 0) ∧ ∃ s', σ' = ovM σ s')) := by
  refine q_ct 1 (by decide) rfl rfl ?_
  show q_WP mX8_isBalanced shM 0 [some (.inr (.inr 0)), some (.inl v), none] [] (ovM σ s) _
  have hn := hI.nt
  have hvv := hI.nv
  have hvt := hI.tie hv
  have hmc := mem_C hn hvt.2.2
  refine q_aload_n (n := 1) dX8_isBalanced_0 rfl rfl ?_
  refine q_iload_n (n := 2) dX8_isBalanced_1 rfl rfl ?_
  refine q_v1W (n := 5) dX8_isBalanced_2 rfl (zX8_tellsThose v σ _ hI hv) vX8_tellsThose lX8_221 rfl rfl mi0 rfl (fun σ2 h2 => ?_)
  obtain ⟨s1, rfl, ⟨hm0, hm⟩, hfr1⟩ := h2
  · skip
    refine q_iconst (n := 6) dX8_isBalanced_5 rfl (k := ?_)
    refine q_istore_n (n := 7) dX8_isBalanced_6 rfl (Nat.le_of_ble_eq_true rfl) (q_s1_s (q_s1_1 rfl)) ?_
    refine (lpX8_ib σ s1 v hI hv hmc.1.2 hm0 hm (mC (pM (σ 1) 6 v) (pM (σ 1) 7 v) (σ 1 1)).toNat 0 (by omega) (by decide)).imp ?_
    rintro r σ2 ⟨z, h1, h2, h3⟩
    exact ⟨z, h1, h2, _, h3⟩
