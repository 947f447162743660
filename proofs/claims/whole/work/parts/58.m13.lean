theorem wF_ge {L : Int} {A : q_A5} : 0 ≤ (wF L A).2.2 := (enum_le (ch := A.2.2.1) (P := nmP L A) A.2.2.2.2.toNat 0 (fun _ => 0, fun _ => 0, 0)).1
theorem okA_of {f kd : Int → Int} {nt a b lost : Int} (hn : 0 ≤ nt ∧ nt ≤ 8) (h : tieok nt a b) (hk3 : (akA f kd nt a b).2.2.2.2 ≤ 3) : okA kd nt a lost (ak2 (akA f kd nt a b) a lost).2.2.2.2 (akA f kd nt a b) := by
  have hw := akA_who (f := f) (kd := kd) hn h
  have hk : 0 ≤ (akA f kd nt a b).2.2.2.2 := (akL_keep (f := f) (kd := kd) (g := mF a b nt) (a := a) (mC a b nt).toNat 0 A0 (by decide)).1
  have h2 := ak2_k (A := akA f kd nt a b) (a := a) (lost := lost)
  refine ⟨hw.1, hw.2.1, hk, ?_, ?_⟩
  · unfold disK
    by_cases e1 : a = -1
    · by_cases e2 : lost = 1
      · rw [if_pos e1, if_pos e2] at h2
        omega
      · rw [if_pos e1, if_neg e2] at h2
        omega
    · by_cases e2 : lost = 1
      · rw [if_neg e1, if_pos e2] at h2
        omega
      · rw [if_neg e1, if_neg e2] at h2
        omega
  · by_cases e1 : a = -1
    · by_cases e2 : lost = 1
      · rw [if_pos e1, if_pos e2] at h2
        omega
      · rw [if_pos e1, if_neg e2] at h2
        omega
    · by_cases e2 : lost = 1
      · rw [if_neg e1, if_pos e2] at h2
        omega
      · rw [if_neg e1, if_neg e2] at h2
        omega
theorem zN_tries (σ s : q_S) (v L lost : Int) (hI : IM σ) (hv : 0 ≤ v ∧ v < σ 1 2) (hk3 : (akA (pM (σ 1) 2) (pM (σ 1) 3) (σ 1 1) (pM (σ 1) 6 v) (pM (σ 1) 7 v)).2.2.2.2 ≤ 3) (ha : askM s (akA (pM (σ 1) 2) (pM (σ 1) 3) (σ 1 1) (pM (σ 1) 6 v) (pM (σ 1) 7 v)) (pM (σ 1) 6 v) lost) (htd : tdM s (pM (σ 1) 3) (σ 1 1)) (h26 : s 0 26 = 0) : q_Ct (mX8_tries (ak2 (akA (pM (σ 1) 2) (pM (σ 1) 3) (σ 1 1) (pM (σ 1) 6 v) (pM (σ 1) 7 v)) (pM (σ 1) 6 v) lost).2.2.2.2.toNat) shM [.inr (.inr 0), .inl v, .inl L, .inl 0] (ovM σ s) (fun r σ' => r = none ∧ (∃ s', σ' = ovM σ s' ∧ s' 0 26 = (wF L (ak2 (akA (pM (σ 1) 2) (pM (σ 1) 3) (σ 1 1) (pM (σ 1) 6 v) (pM (σ 1) 7 v)) (pM (σ 1) 6 v) lost)).2.2 ∧ s' 0 23 = (ak2 (akA (pM (σ 1) 2) (pM (σ 1) 3) (σ 1 1) (pM (σ 1) 6 v) (pM (σ 1) 7 v)) (pM (σ 1) 6 v) lost).2.2.2.2 ∧ ((wF L (ak2 (akA (pM (σ 1) 2) (pM (σ 1) 3) (σ 1 1) (pM (σ 1) 6 v) (pM (σ 1) 7 v)) (pM (σ 1) 6 v) lost)).2.2 ≠ 0 → ag (ak2 (akA (pM (σ 1) 2) (pM (σ 1) 3) (σ 1 1) (pM (σ 1) 6 v) (pM (σ 1) 7 v)) (pM (σ 1) 6 v) lost).2.2.2.2 (s' 13) (wF L (ak2 (akA (pM (σ 1) 2) (pM (σ 1) 3) (σ 1 1) (pM (σ 1) 6 v) (pM (σ 1) 7 v)) (pM (σ 1) 6 v) lost)).2.1) ∧ askM s' (akA (pM (σ 1) 2) (pM (σ 1) 3) (σ 1 1) (pM (σ 1) 6 v) (pM (σ 1) 7 v)) (pM (σ 1) 6 v) lost)) := by
  have hn := hI.nt
  have hvt := hI.tie hv
  have hw := akA_who (f := (pM (σ 1) 2)) (kd := (pM (σ 1) 3)) hn hvt.2.2
  have hok := okA_of (f := (pM (σ 1) 2)) (kd := (pM (σ 1) 3)) (lost := lost) hn hvt.2.2 hk3
  have hk : 0 ≤ (akA (pM (σ 1) 2) (pM (σ 1) 3) (σ 1 1) (pM (σ 1) 6 v) (pM (σ 1) 7 v)).2.2.2.2 := hok.2.2.1
  have h5 := hok.2.2.2.2
  have hd := hok.2.2.2.1
  unfold disK at hd
  have hch := akL_ch (f := (pM (σ 1) 2)) (kd := (pM (σ 1) 3)) (g := mF (pM (σ 1) 6 v) (pM (σ 1) 7 v) (σ 1 1)) (a := (pM (σ 1) 6 v)) (mC (pM (σ 1) 6 v) (pM (σ 1) 7 v) (σ 1 1)).toNat 0 A0 (by decide) (fun x x0 x1 => absurd x1 (by show ¬ x < 0; omega))
  have h2 := ak2_ch (A := (akA (pM (σ 1) 2) (pM (σ 1) 3) (σ 1 1) (pM (σ 1) 6 v) (pM (σ 1) 7 v))) (a := (pM (σ 1) 6 v)) (lost := lost) hk
  have ht := zX8_tries σ v L lost (ak2 (akA (pM (σ 1) 2) (pM (σ 1) 3) (σ 1 1) (pM (σ 1) 6 v) (pM (σ 1) 7 v)) (pM (σ 1) 6 v) lost).2.2.2.2 (akA (pM (σ 1) 2) (pM (σ 1) 3) (σ 1 1) (pM (σ 1) 6 v) (pM (σ 1) 7 v)) (nmP L (ak2 (akA (pM (σ 1) 2) (pM (σ 1) 3) (σ 1 1) (pM (σ 1) 6 v) (pM (σ 1) 7 v)) (pM (σ 1) 6 v) lost)) (ak2 (akA (pM (σ 1) 2) (pM (σ 1) 3) (σ 1 1) (pM (σ 1) 6 v) (pM (σ 1) 7 v)) (pM (σ 1) 6 v) lost).2.2.1 hI hv hok (fun x x0 x1 => ⟨fun z => (h2.1 x x0 z).trans (hch x x0 z), fun z => h2.2 x z x1⟩) (fun nm row t1 t2 t3 => ?_) hw.2.2 (ak2 (akA (pM (σ 1) 2) (pM (σ 1) 3) (σ 1 1) (pM (σ 1) 6 v) (pM (σ 1) 7 v)) (pM (σ 1) 6 v) lost).2.2.2.2.toNat 0 (fun _ => 0, fun _ => 0, 0) s (by omega) (by decide) ⟨fun x x0 x1 => by omega, h26, fun z => absurd rfl z, by show (0 : Int) ≤ 0; decide, fun j j0 j1 => by omega⟩ ha htd (by show (0 : Int) + _ ≤ _; have := pow12 (n := (ak2 (akA (pM (σ 1) 2) (pM (σ 1) 3) (σ 1 1) (pM (σ 1) 6 v) (pM (σ 1) 7 v)) (pM (σ 1) 6 v) lost).2.2.2.2.toNat) (by omega); omega)
  · refine ht.imp ?_
    rintro r σ' ⟨hr, s', h1, htr, hak, _⟩
    exact ⟨hr, s', h1, htr.2.1, hak.1, htr.2.2.1, hak⟩
  · exact lawB_ag (fun q q0 q1 => loT_ak hn hvt.2.2 ⟨q0, q1⟩ t2 t1 t3)
theorem askM_o {s s' : q_S} {A : q_A5} {a lost : Int} (h : askM s A a lost) (h0 : s' 0 23 = s 0 23) (h1 : ∀ x, s' 11 x = s 11 x) : askM s' A a lost := askK_o (K := (ak2 A a lost).2.2.2.2) h h0 h1
set_option maxRecDepth 100000 in
theorem zX8_naming (v L lost : Int) (σ s : q_S) (hI : IM σ) : q_Ct mX8_naming shM [.inr (.inr 0), .inl v, .inl L, .inl lost] (ovM σ s) (fun r σ' => ∃ z, r = some z ∧ ((z = .inl (-1) ∧ (¬ (0 ≤ v ∧ v < σ 1 2) ∨ ¬ (0 ≤ L ∧ L < 3) ∨ ¬ (lost = 0 ∨ lost = 1)) ∧ ∃ s', σ' = ovM σ s') ∨ (z = .inl (-5) ∧ ¬ (¬ (0 ≤ v ∧ v < σ 1 2) ∨ ¬ (0 ≤ L ∧ L < 3) ∨ ¬ (lost = 0 ∨ lost = 1)) ∧ 3 < (akA (pM (σ 1) 2) (pM (σ 1) 3) (σ 1 1) (pM (σ 1) 6 v) (pM (σ 1) 7 v)).2.2.2.2 ∧ ∃ s', σ' = ovM σ s') ∨ (z = .inl 0 ∧ (¬ (¬ (0 ≤ v ∧ v < σ 1 2) ∨ ¬ (0 ≤ L ∧ L < 3) ∨ ¬ (lost = 0 ∨ lost = 1)) ∧ ¬ 3 < (akA (pM (σ 1) 2) (pM (σ 1) 3) (σ 1 1) (pM (σ 1) 6 v) (pM (σ 1) 7 v)).2.2.2.2) ∧ (0 ≤ v ∧ v < σ 1 2) ∧ ∃ s', σ' = ovM σ s' ∧ s' 0 26 = (wF L (ak2 (akA (pM (σ 1) 2) (pM (σ 1) 3) (σ 1 1) (pM (σ 1) 6 v) (pM (σ 1) 7 v)) (pM (σ 1) 6 v) lost)).2.2 ∧ s' 0 23 = (ak2 (akA (pM (σ 1) 2) (pM (σ 1) 3) (σ 1 1) (pM (σ 1) 6 v) (pM (σ 1) 7 v)) (pM (σ 1) 6 v) lost).2.2.2.2 ∧ ((wF L (ak2 (akA (pM (σ 1) 2) (pM (σ 1) 3) (σ 1 1) (pM (σ 1) 6 v) (pM (σ 1) 7 v)) (pM (σ 1) 6 v) lost)).2.2 ≠ 0 → ag (ak2 (akA (pM (σ 1) 2) (pM (σ 1) 3) (σ 1 1) (pM (σ 1) 6 v) (pM (σ 1) 7 v)) (pM (σ 1) 6 v) lost).2.2.2.2 (s' 13) (wF L (ak2 (akA (pM (σ 1) 2) (pM (σ 1) 3) (σ 1 1) (pM (σ 1) 6 v) (pM (σ 1) 7 v)) (pM (σ 1) 6 v) lost)).2.1) ∧ askM s' (akA (pM (σ 1) 2) (pM (σ 1) 3) (σ 1 1) (pM (σ 1) 6 v) (pM (σ 1) 7 v)) (pM (σ 1) 6 v) lost))) := by
  refine q_ct 0 (by decide) rfl rfl ?_
  show q_WP mX8_naming shM 0 [some (.inr (.inr 0)), some (.inl v), some (.inl L), some (.inl lost)] [] (ovM σ s) _
  have hn := hI.nt
  have hvv := hI.nv
  refine q_aload_n (n := 1) dX8_naming_0 rfl rfl ?_
  refine q_iload_n (n := 2) dX8_naming_1 rfl rfl ?_
  refine q_v1D (n := 5) dX8_naming_2 rfl (zX8_isVertex _ σ _ (by omega)) vX8_isVertex lX8_192 rfl rfl mi0 rfl ?_
  refine q_if_eq (n := 8) (t := 25) dX8_naming_5 rfl (by decide) (fun h5 => ?_) (fun h5 => ?_)
  · have hv := q_b0.mp h5
    refine q_iconst (n := 26) dX8_naming_25 rfl (k := ?_)
    refine q_iret dX8_naming_26 rfl (fun _ => rfl) ?_
    exact ⟨_, rfl, Or.inl ⟨rfl, by omega, _, rfl⟩⟩
  · have hv := q_b1.mp h5
    have hun := akA_un (f := (pM (σ 1) 2)) (kd := (pM (σ 1) 3)) (nt := (σ 1 1)) (a := (pM (σ 1) 6 v)) (b := (pM (σ 1) 7 v))
    refine q_iload_n (n := 9) dX8_naming_8 rfl rfl ?_
    refine q_c1D (n := 12) dX8_naming_9 rfl (zX8_isLaw _ _ _) vX8_isLaw lX8_262 rfl rfl ?_
    refine q_if_eq (n := 15) (t := 25) dX8_naming_12 rfl (by decide) (fun h12 => ?_) (fun h12 => ?_)
    · have h12 := q_b0.mp h12
      refine q_iconst (n := 26) dX8_naming_25 rfl (k := ?_)
      refine q_iret dX8_naming_26 rfl (fun _ => rfl) ?_
      exact ⟨_, rfl, Or.inl ⟨rfl, by omega, _, rfl⟩⟩
    · have h12 := q_b1.mp h12
      refine q_iload_n (n := 16) dX8_naming_15 rfl rfl ?_
      refine q_i2l (n := 17) dX8_naming_16 rfl ?_
      refine q_lconst (x := 0) (n := 18) dX8_naming_17 rfl (k := ?_)
      refine q_lconst (x := 1) (n := 19) dX8_naming_18 rfl (k := ?_)
      refine q_c3D (n := 22) dX8_naming_19 rfl (zX8_in _ _ _ _ _) vX8_in lX8_13 rfl rfl ?_
      refine q_if_ne (n := 25) (t := 27) dX8_naming_22 rfl (by decide) (fun h22 => ?_) (fun h22 => ?_)
      · have h22 := q_b1.mp h22
        have hok : ¬ (¬ (0 ≤ v ∧ v < σ 1 2) ∨ ¬ (0 ≤ L ∧ L < 3) ∨ ¬ (lost = 0 ∨ lost = 1)) := by omega
        refine q_aload_n (n := 28) dX8_naming_27 rfl rfl ?_
        refine q_iload_n (n := 29) dX8_naming_28 rfl rfl ?_
        refine q_v1 (n := 32) dX8_naming_29 rfl (zX8_untoldMany v σ _ hI hv) vX8_untoldMany lX8_268 rfl rfl mi0 rfl (fun v29 σ29 h29 => ?_)
        obtain ⟨rfl, s29, rfl⟩ := h29
        · skip
          refine q_iconst (n := 33) dX8_naming_32 rfl (k := ?_)
          refine q_icmp_le (n := 36) (t := 39) dX8_naming_33 rfl (by decide) (fun h33 => ?_) (fun h33 => ?_)
          · skip
            refine q_aload_n (n := 40) dX8_naming_39 rfl rfl ?_
            refine q_iload_n (n := 41) dX8_naming_40 rfl rfl ?_
            refine q_iload_n (n := 42) dX8_naming_41 rfl rfl ?_
            refine q_v2W (n := 45) dX8_naming_42 rfl (zX8_tellsAsked v lost σ _ hI hv (by omega)) vX8_tellsAsked lX8_287 rfl rfl mi0 rfl (fun σ42 h42 => ?_)
            obtain ⟨s42, rfl, ha⟩ := h42
            · skip
              refine q_aload_n (n := 46) dX8_naming_45 rfl rfl ?_
              refine q_v0W (n := 49) dX8_naming_46 rfl (zX8_tellsNamed σ _ hI) vX8_tellsNamed lX8_271 rfl rfl mi0 rfl (fun σ46 h46 => ?_)
              obtain ⟨s46, rfl, hn46, hf46⟩ := h46
              · skip
                refine q_aload_n (n := 50) dX8_naming_49 rfl rfl ?_
                refine q_iconst (n := 51) dX8_naming_50 rfl (k := ?_)
                refine q_putI (kI := 26) (n := 54) dX8_naming_51 rfl pX8_281 mi0 rfl rfl ?_
                rw [om_up rfl]
                refine q_aload_n (n := 55) dX8_naming_54 rfl rfl ?_
                refine q_iload_n (n := 56) dX8_naming_55 rfl rfl ?_
                refine q_iload_n (n := 57) dX8_naming_56 rfl rfl ?_
                refine q_iconst (n := 58) dX8_naming_57 rfl (k := ?_)
                refine q_v3W (n := 61) dX8_naming_58 rfl (zN_tries σ _ v L lost hI hv (by omega) (askM_o ha (hf46 0 23 (by decide)) (fun x => (q_up_n (by omega)).trans (hf46 11 x (by decide)))) (tdM_o (told_of hn46) (fun x => q_up_n (by omega))) q_up_s) (vX8_tries _) lX8_284 (Nat.ble_eq_true_of_le (by show (ak2 (akA (pM (σ 1) 2) (pM (σ 1) 3) (σ 1 1) (pM (σ 1) 6 v) (pM (σ 1) 7 v)) (pM (σ 1) 6 v) lost).2.2.2.2.toNat + 3 + 1 ≤ 11; have := (okA_of (f := (pM (σ 1) 2)) (kd := (pM (σ 1) 3)) (lost := lost) hn (hI.tie hv).2.2 (by omega)).2.2.2.2; omega)) rfl mi0 rfl (fun σ58 h58 => ?_)
                obtain ⟨s58, rfl, hn1, hn2, hn3, hn4⟩ := h58
                · skip
                  refine q_iconst (n := 62) dX8_naming_61 rfl (k := ?_)
                  refine q_iret dX8_naming_62 rfl (fun _ => rfl) ?_
                  exact ⟨_, rfl, Or.inr (Or.inr ⟨rfl, ⟨hok, by omega⟩, hv, _, rfl, hn1, hn2, hn3, hn4⟩)⟩
          · skip
            refine q_bipush (n := 38) dX8_naming_36 rfl (k := ?_)
            refine q_iret dX8_naming_38 rfl (fun _ => rfl) ?_
            exact ⟨_, rfl, Or.inr (Or.inl ⟨rfl, hok, by omega, _, rfl⟩)⟩
      · have h22 := q_b0.mp h22
        refine q_iconst (n := 26) dX8_naming_25 rfl (k := ?_)
        refine q_iret dX8_naming_26 rfl (fun _ => rfl) ?_
        exact ⟨_, rfl, Or.inl ⟨rfl, by omega, _, rfl⟩⟩
set_option maxRecDepth 100000 in
theorem zX8_names (v L lost k : Int) (σ s : q_S) (hI : IM σ) : q_Ct mX8_names shM [.inr (.inr 0), .inl v, .inl L, .inl lost, .inl k] (ovM σ s) (fun r σ' => r = some (.inl (fNames (σ 1 1) (σ 1 2) (pM (σ 1) 2) (pM (σ 1) 3) (pM (σ 1) 6) (pM (σ 1) 7) v L lost k)) ∧ ∃ s', σ' = ovM σ s') := by
  refine q_ct 1 (by decide) rfl rfl ?_
  show q_WP mX8_names shM 0 [some (.inr (.inr 0)), some (.inl v), some (.inl L), some (.inl lost), some (.inl k), none] [] (ovM σ s) _
  refine q_iload (n := 2) dX8_names_0 rfl rfl ?_
  refine q_iconst (n := 3) dX8_names_2 rfl (k := ?_)
  refine q_icmp_ge (n := 6) (t := 8) dX8_names_3 rfl (by decide) (fun h3 => ?_) (fun h3 => ?_)
  · skip
    refine q_aload_n (n := 9) dX8_names_8 rfl rfl ?_
    refine q_iload_n (n := 10) dX8_names_9 rfl rfl ?_
    refine q_iload_n (n := 11) dX8_names_10 rfl rfl ?_
    refine q_iload_n (n := 12) dX8_names_11 rfl rfl ?_
    refine q_v3 (n := 15) dX8_names_12 rfl (zX8_naming v L lost σ s hI) vX8_naming lX8_290 rfl rfl mi0 rfl (fun v12 σ12 h12 => ?_)
    rcases h12 with ⟨rfl, hb, s2, rfl⟩ | ⟨rfl, hb, hb2, s2, rfl⟩ | ⟨rfl, hb, hv, s2, rfl, hn1, hn2, hn3, hn4⟩
    any_goals have hk2 := ak2_k (A := (akA (pM (σ 1) 2) (pM (σ 1) 3) (σ 1 1) (pM (σ 1) 6 v) (pM (σ 1) 7 v))) (a := (pM (σ 1) 6 v)) (lost := lost)
    any_goals have hge := @wF_ge L (ak2 (akA (pM (σ 1) 2) (pM (σ 1) 3) (σ 1 1) (pM (σ 1) 6 v) (pM (σ 1) 7 v)) (pM (σ 1) 6 v) lost)
    · skip
      refine q_istore (n := 17) dX8_names_15 rfl (Nat.le_of_ble_eq_true rfl) (q_s1_s (q_s1_s (q_s1_s (q_s1_s (q_s1_1 rfl))))) ?_
      refine q_iload (n := 19) dX8_names_17 rfl rfl ?_
      refine q_if_eq (n := 22) (t := 25) dX8_names_19 rfl (by decide) (fun h19 => ?_) (fun h19 => ?_)
      · exact absurd h19 (by decide)
      · skip
        refine q_iload (n := 24) dX8_names_22 rfl rfl ?_
        refine q_iret dX8_names_24 rfl (fun _ => rfl) ?_
        refine ⟨congrArg some (congrArg Sum.inl (Eq.symm ?_)), _, rfl⟩
        unfold fNames
        first
          | (have hz : ¬ (0 ≤ v ∧ v < σ 1 2) ∨ ¬ (0 ≤ L ∧ L < 3) ∨ ¬ (lost = 0 ∨ lost = 1) ∨ k < -1 := by omega
             have hz : ¬ (0 ≤ v ∧ v < σ 1 2) ∨ ¬ (0 ≤ L ∧ L < 3) ∨ ¬ (lost = 0 ∨ lost = 1) ∨ k < -1 := by omega
             exact if_pos hz)
          | (rw [if_neg (by omega), if_pos (by omega)]; done)
          | (rw [if_neg (by omega), if_neg (by omega), if_pos (by assumption)]; done)
          | (rw [if_neg (by omega), if_neg (by omega), if_neg (by assumption), if_pos (by omega)]; done)
          | (rw [if_neg (by omega), if_neg (by omega), if_neg (by assumption), if_neg (by omega)]; done)
    · skip
      refine q_istore (n := 17) dX8_names_15 rfl (Nat.le_of_ble_eq_true rfl) (q_s1_s (q_s1_s (q_s1_s (q_s1_s (q_s1_1 rfl))))) ?_
      refine q_iload (n := 19) dX8_names_17 rfl rfl ?_
      refine q_if_eq (n := 22) (t := 25) dX8_names_19 rfl (by decide) (fun h19 => ?_) (fun h19 => ?_)
      · exact absurd h19 (by decide)
      · skip
        refine q_iload (n := 24) dX8_names_22 rfl rfl ?_
        refine q_iret dX8_names_24 rfl (fun _ => rfl) ?_
        refine ⟨congrArg some (congrArg Sum.inl (Eq.symm ?_)), _, rfl⟩
        unfold fNames
        first
          | (have hz : ¬ (0 ≤ v ∧ v < σ 1 2) ∨ ¬ (0 ≤ L ∧ L < 3) ∨ ¬ (lost = 0 ∨ lost = 1) ∨ k < -1 := by omega
             have hz : ¬ (0 ≤ v ∧ v < σ 1 2) ∨ ¬ (0 ≤ L ∧ L < 3) ∨ ¬ (lost = 0 ∨ lost = 1) ∨ k < -1 := by omega
             exact if_pos hz)
          | (rw [if_neg (by omega), if_pos (by omega)]; done)
          | (rw [if_neg (by omega), if_neg (by omega), if_pos (by assumption)]; done)
          | (rw [if_neg (by omega), if_neg (by omega), if_neg (by assumption), if_pos (by omega)]; done)
          | (rw [if_neg (by omega), if_neg (by omega), if_neg (by assumption), if_neg (by omega)]; done)
    · skip
      refine q_istore (n := 17) dX8_names_15 rfl (Nat.le_of_ble_eq_true rfl) (q_s1_s (q_s1_s (q_s1_s (q_s1_s (q_s1_1 rfl))))) ?_
      refine q_iload (n := 19) dX8_names_17 rfl rfl ?_
      refine q_if_eq (n := 22) (t := 25) dX8_names_19 rfl (by decide) (fun h19 => ?_) (fun h19 => ?_)
      · skip
        refine q_iload (n := 27) dX8_names_25 rfl rfl ?_
        refine q_iconst (n := 28) dX8_names_27 rfl (k := ?_)
        refine q_icmp_ne (n := 31) (t := 36) dX8_names_28 rfl (by decide) (fun h28 => ?_) (fun h28 => ?_)
        · skip
          refine q_aload_n (n := 37) dX8_names_36 rfl rfl ?_
          refine q_getIE ((wF L (ak2 (akA (pM (σ 1) 2) (pM (σ 1) 3) (σ 1 1) (pM (σ 1) 6 v) (pM (σ 1) 7 v)) (pM (σ 1) 6 v) lost)).2.2) (kI := 26) (n := 40) (by decide) dX8_names_37 rfl fX8_281 mi0 rfl rfl hn1 ?_
          refine q_if_le (n := 43) (t := 62) dX8_names_40 rfl (by decide) (fun h40 => ?_) (fun h40 => ?_)
          · skip
            refine q_bipush (n := 64) dX8_names_62 rfl (k := ?_)
            refine q_iret dX8_names_64 rfl (fun _ => rfl) ?_
            refine ⟨congrArg some (congrArg Sum.inl (Eq.symm ?_)), _, rfl⟩
            unfold fNames
            first
              | (have hz : ¬ (0 ≤ v ∧ v < σ 1 2) ∨ ¬ (0 ≤ L ∧ L < 3) ∨ ¬ (lost = 0 ∨ lost = 1) ∨ k < -1 := by omega
                 have hz : ¬ (0 ≤ v ∧ v < σ 1 2) ∨ ¬ (0 ≤ L ∧ L < 3) ∨ ¬ (lost = 0 ∨ lost = 1) ∨ k < -1 := by omega
                 exact if_pos hz)
              | (rw [if_neg (by omega), if_pos (by omega)]; done)
              | (rw [if_neg (by omega), if_neg (by omega), if_pos (by assumption)]; done)
              | (rw [if_neg (by omega), if_neg (by omega), if_neg (by assumption), if_pos (by omega)]; done)
              | (rw [if_neg (by omega), if_neg (by omega), if_neg (by assumption), if_neg (by omega)]; done)
          · skip
            refine q_iload (n := 45) dX8_names_43 rfl rfl ?_
            refine q_aload_n (n := 46) dX8_names_45 rfl rfl ?_
            refine q_getIE ((ak2 (akA (pM (σ 1) 2) (pM (σ 1) 3) (σ 1 1) (pM (σ 1) 6 v) (pM (σ 1) 7 v)) (pM (σ 1) 6 v) lost).2.2.2.2) (kI := 23) (n := 49) (by decide) dX8_names_46 rfl fX8_278 mi0 rfl rfl hn2 ?_
            refine q_icmp_ge (n := 52) (t := 62) dX8_names_49 rfl (by decide) (fun h49 => ?_) (fun h49 => ?_)
            · skip
              refine q_bipush (n := 64) dX8_names_62 rfl (k := ?_)
              refine q_iret dX8_names_64 rfl (fun _ => rfl) ?_
              refine ⟨congrArg some (congrArg Sum.inl (Eq.symm ?_)), _, rfl⟩
              unfold fNames
              first
                | (have hz : ¬ (0 ≤ v ∧ v < σ 1 2) ∨ ¬ (0 ≤ L ∧ L < 3) ∨ ¬ (lost = 0 ∨ lost = 1) ∨ k < -1 := by omega
                   have hz : ¬ (0 ≤ v ∧ v < σ 1 2) ∨ ¬ (0 ≤ L ∧ L < 3) ∨ ¬ (lost = 0 ∨ lost = 1) ∨ k < -1 := by omega
                   exact if_pos hz)
                | (rw [if_neg (by omega), if_pos (by omega)]; done)
                | (rw [if_neg (by omega), if_neg (by omega), if_pos (by assumption)]; done)
                | (rw [if_neg (by omega), if_neg (by omega), if_neg (by assumption), if_pos (by omega)]; done)
                | (rw [if_neg (by omega), if_neg (by omega), if_neg (by assumption), if_neg (by omega)]; done)
            · skip
              refine q_aload_n (n := 53) dX8_names_52 rfl rfl ?_
              refine q_getR (n := 56) dX8_names_53 rfl fX8_60 mi0 rfl ?_
              refine q_iload (n := 58) dX8_names_56 rfl rfl ?_
              refine q_ialoadE ((wF L (ak2 (akA (pM (σ 1) 2) (pM (σ 1) 3) (σ 1 1) (pM (σ 1) 6 v) (pM (σ 1) 7 v)) (pM (σ 1) 6 v) lost)).2.1 k) (n := 59) dX8_names_58 rfl mi13 ⟨by omega, by have := (okA_of (f := (pM (σ 1) 2)) (kd := (pM (σ 1) 3)) (lost := lost) hI.nt (hI.tie hv).2.2 (by omega)).2.2.2.2; omega⟩ (hn3 (by omega) k (by omega) (by omega)) ?_
              refine q_go (t := 64) dX8_names_59 (by decide) ?_
              refine q_iret dX8_names_64 rfl (fun _ => rfl) ?_
              refine ⟨congrArg some (congrArg Sum.inl (Eq.symm ?_)), _, rfl⟩
              unfold fNames
              first
                | (have hz : ¬ (0 ≤ v ∧ v < σ 1 2) ∨ ¬ (0 ≤ L ∧ L < 3) ∨ ¬ (lost = 0 ∨ lost = 1) ∨ k < -1 := by omega
                   have hz : ¬ (0 ≤ v ∧ v < σ 1 2) ∨ ¬ (0 ≤ L ∧ L < 3) ∨ ¬ (lost = 0 ∨ lost = 1) ∨ k < -1 := by omega
                   exact if_pos hz)
                | (rw [if_neg (by omega), if_pos (by omega)]; done)
                | (rw [if_neg (by omega), if_neg (by omega), if_pos (by assumption)]; done)
                | (rw [if_neg (by omega), if_neg (by omega), if_neg (by assumption), if_pos (by omega)]; done)
                | (rw [if_neg (by omega), if_neg (by omega), if_neg (by assumption), if_neg (by omega)]; done)
        · skip
          refine q_aload_n (n := 32) dX8_names_31 rfl rfl ?_
          refine q_getIE ((wF L (ak2 (akA (pM (σ 1) 2) (pM (σ 1) 3) (σ 1 1) (pM (σ 1) 6 v) (pM (σ 1) 7 v)) (pM (σ 1) 6 v) lost)).2.2) (kI := 26) (n := 35) (by decide) dX8_names_32 rfl fX8_281 mi0 rfl rfl hn1 ?_
          refine q_iret dX8_names_35 rfl (fun _ => rfl) ?_
          refine ⟨congrArg some (congrArg Sum.inl (Eq.symm ?_)), _, rfl⟩
          unfold fNames
          first
            | (have hz : ¬ (0 ≤ v ∧ v < σ 1 2) ∨ ¬ (0 ≤ L ∧ L < 3) ∨ ¬ (lost = 0 ∨ lost = 1) ∨ k < -1 := by omega
               have hz : ¬ (0 ≤ v ∧ v < σ 1 2) ∨ ¬ (0 ≤ L ∧ L < 3) ∨ ¬ (lost = 0 ∨ lost = 1) ∨ k < -1 := by omega
               exact if_pos hz)
            | (rw [if_neg (by omega), if_pos (by omega)]; done)
            | (rw [if_neg (by omega), if_neg (by omega), if_pos (by assumption)]; done)
            | (rw [if_neg (by omega), if_neg (by omega), if_neg (by assumption), if_pos (by omega)]; done)
            | (rw [if_neg (by omega), if_neg (by omega), if_neg (by assumption), if_neg (by omega)]; done)
      · exact absurd h19 (by decide)
  · skip
    refine q_iconst (n := 7) dX8_names_6 rfl (k := ?_)
    refine q_iret dX8_names_7 rfl (fun _ => rfl) ?_
    refine ⟨congrArg some (congrArg Sum.inl (Eq.symm ?_)), _, rfl⟩
    unfold fNames
    first
      | (have hz : ¬ (0 ≤ v ∧ v < σ 1 2) ∨ ¬ (0 ≤ L ∧ L < 3) ∨ ¬ (lost = 0 ∨ lost = 1) ∨ k < -1 := by omega
         have hz : ¬ (0 ≤ v ∧ v < σ 1 2) ∨ ¬ (0 ≤ L ∧ L < 3) ∨ ¬ (lost = 0 ∨ lost = 1) ∨ k < -1 := by omega
         exact if_pos hz)
      | (rw [if_neg (by omega), if_pos (by omega)]; done)
      | (rw [if_neg (by omega), if_neg (by omega), if_pos (by assumption)]; done)
      | (rw [if_neg (by omega), if_neg (by omega), if_neg (by assumption), if_pos (by omega)]; done)
      | (rw [if_neg (by omega), if_neg (by omega), if_neg (by assumption), if_neg (by omega)]; done)
def rsU (p : Int → Bool) (i b : Int) : Int := if b = 0 ∧ num i 0 = 0 then (if p i = true then 1 else 0) else b
theorem rsU_k {P : (Int → Int) → Bool} {p : Int → Bool} (hp : ∀ (r : Int → Int) i, 0 ≤ i → i < 12 → (P (ud r 0 i) = true ↔ p i = true)) : (kfold (rsU p) 12 0 0 = 1 ∧ 0 < (kfold (fun kd (s : q_W3) => if num kd 0 = 0 then enL P (ud s.1 0 kd, s.2) else s) 12 0 (fun _ => 0, fun _ => 0, 0)).2.2) ∨ (kfold (rsU p) 12 0 0 = 0 ∧ (kfold (fun kd (s : q_W3) => if num kd 0 = 0 then enL P (ud s.1 0 kd, s.2) else s) 12 0 (fun _ => 0, fun _ => 0, 0)).2.2 = 0) := by
  refine kfold_rel (R := fun (b : Int) (s : q_W3) => (b = 1 ∧ 0 < s.2.2) ∨ (b = 0 ∧ s.2.2 = 0)) 12 0 0 _ (fun j b s j0 j1 h => ?_) (Or.inr ⟨rfl, rfl⟩)
  unfold rsU
  have hpj := hp s.1 j j0 (by omega)
  by_cases e : num j 0 = 0
  · rw [if_pos e]
    by_cases e2 : p j = true
    · rw [if_pos e2]
      have e3 := hpj.mpr e2
      unfold enL
      rw [if_pos e3]
      rcases h with ⟨h1, h2⟩ | ⟨h1, h2⟩
      · rw [if_neg (fun z => by omega)]
        exact Or.inl ⟨h1, by show 0 < s.2.2 + 1; omega⟩
      · rw [if_pos ⟨h1, e⟩]
        exact Or.inl ⟨rfl, by show 0 < s.2.2 + 1; omega⟩
    · rw [if_neg e2]
      have e3 : ¬ P (ud s.1 0 j) = true := fun z => e2 (hpj.mp z)
      unfold enL
      rw [if_neg e3]
      rcases h with ⟨h1, h2⟩ | ⟨h1, h2⟩
      · rw [if_neg (fun z => by omega)]
        exact Or.inl ⟨h1, h2⟩
      · rw [if_pos ⟨h1, e⟩]
        exact Or.inr ⟨rfl, h2⟩
  · rw [if_neg e, if_neg (fun z => e z.2)]
    exact h
theorem wF_a {L : Int} {A : q_A5} {a : Int} (ha : a ≠ -1) (hk : A.2.2.2.2 = 0) : 0 < (wF L (ak2 A a 0)).2.2 ↔ lawB L A.1 = true := by
  have e : ak2 A a 0 = A := by
    unfold ak2
    rw [if_neg (by decide), if_neg ha]
  rw [e]
  unfold wF
  rw [hk]
  show 0 < (enum A.2.2.1 (nmP L A) 0 0 _).2.2 ↔ _
  rw [enum]
  unfold enL
  have e2 : nmP L A (fun _ => 0) = lawB L A.1 := by
    unfold nmP
    rw [hk]
    rfl
  dsimp only
  rw [e2]
  by_cases h : lawB L A.1 = true
  · rw [if_pos h]
    exact ⟨fun _ => h, fun _ => by show (0 : Int) < 0 + 1; decide⟩
  · rw [if_neg h]
    exact ⟨fun z => absurd z (by show ¬ (0 : Int) < 0; decide), fun z => absurd z h⟩
theorem wF_m {L : Int} {A : q_A5} (hk : A.2.2.2.2 = 0) : (kfold (rsU (fun i => lawB L (addE A.1 1 i))) 12 0 0 = 1 ∧ 0 < (wF L (ak2 A (-1) 0)).2.2) ∨ (kfold (rsU (fun i => lawB L (addE A.1 1 i))) 12 0 0 = 0 ∧ (wF L (ak2 A (-1) 0)).2.2 = 0) := by
  have e : ak2 A (-1) 0 = pushA A (-1) 0 1 := by
    unfold ak2
    rw [if_neg (by decide), if_pos rfl]
  rw [e]
  have ek : (pushA A (-1) 0 1).2.2.2.2 = 1 := by
    show A.2.2.2.2 + 1 = 1
    omega
  have ec : (pushA A (-1) 0 1).2.2.1 0 = 0 := by
    show ud A.2.2.1 A.2.2.2.2 0 0 = 0
    rw [hk]
    exact ud_s
  unfold wF
  rw [ek]
  show (_ ∧ 0 < (enum _ _ 1 0 _).2.2) ∨ (_ ∧ (enum _ _ 1 0 _).2.2 = 0)
  rw [enum, ec]
  refine rsU_k (fun r i i0 i1 => ?_)
  unfold nmP
  rw [ek]
  show lawB L (sumE _ _ 1 (ud r 0 i)) = true ↔ _
  rw [sumE, sumE]
  have es : (pushA A (-1) 0 1).2.2.2.1 ((0 : Nat) : Int) = 1 := by
    show ud A.2.2.2.1 A.2.2.2.2 1 0 = 1
    rw [hk]
    exact ud_s
  have eu : ud r 0 i ((0 : Nat) : Int) = i := ud_s
  rw [es, eu]
  exact Iff.rfl
set_option maxRecDepth 100000 in
theorem lpX8_re (σ s : q_S) (v L : Int) (hI : IM σ) (hv : 0 ≤ v ∧ v < σ 1 2) (hnm : nmK s (σ 1 1) (pM (σ 1) 6 v) (pM (σ 1) 7 v)) (p : Int → Bool) (hp : ∀ i, 0 ≤ i → i < 12 → ((lawB L (fun q => loT (s 10) (σ 1 1) (pM (σ 1) 6 v) (pM (σ 1) 7 v) i (-1) q)) = true ↔ p i = true)) : ∀ (n : Nat) (i b : Int), (n : Int) + i = 12 → 0 ≤ i → (b = 0 ∨ b = 1) → q_WP mX8_rests shM 37 [some (.inr (.inr 0)), some (.inl v), some (.inl L), some (.inl b), some (.inl i)] [] (ovM σ s) (fun r σ' => r = some (.inl (kfold (rsU p) n i b)) ∧ σ' = ovM σ s) := by
  intro n
  induction n with
  | zero =>
    intro i b hi h0 hb
    refine q_iload (n := 39) dX8_rests_37 rfl rfl ?_
    refine q_bipush (n := 41) dX8_rests_39 rfl (k := ?_)
    refine q_icmp_ge (n := 44) (t := 81) dX8_rests_41 rfl (by decide) (fun h41 => ?_) (fun h41 => ?_)
    · skip
      refine q_iload_n (n := 82) dX8_rests_81 rfl rfl ?_
      refine q_iret dX8_rests_82 rfl (fun _ => by first | (rcases hb with z | z <;> rw [z] <;> rfl) | rfl) ?_
      exact ⟨rfl, rfl⟩
    · exact absurd h41 (by omega)
  | succ n ih =>
    intro i b hi h0 hb
    have hw : (-1 : Int) = -1 ∨ 0 ≤ (-1 : Int) ∧ (-1 : Int) < 12 := Or.inl rfl
    have hu : (pM (σ 1) 6 v) = -1 → 0 ≤ i ∧ i < 12 := fun _ => ⟨h0, by omega⟩
    have hpi := hp i h0 (by omega)
    refine q_iload (n := 39) dX8_rests_37 rfl rfl ?_
    refine q_bipush (n := 41) dX8_rests_39 rfl (k := ?_)
    refine q_icmp_ge (n := 44) (t := 81) dX8_rests_41 rfl (by decide) (fun h41 => ?_) (fun h41 => ?_)
    · exact absurd h41 (by omega)
    · skip
      refine q_iload_n (n := 45) dX8_rests_44 rfl rfl ?_
      refine q_if_ne (n := 48) (t := 69) dX8_rests_45 rfl (by decide) (fun h45 => ?_) (fun h45 => ?_)
      · skip
        refine q_iconst (n := 70) dX8_rests_69 rfl (k := ?_)
        refine q_go (t := 74) dX8_rests_70 (by decide) ?_
        refine q_istore_n (n := 75) dX8_rests_74 rfl (Nat.le_of_ble_eq_true rfl) (q_s1_s (q_s1_s (q_s1_1 rfl))) ?_
        refine q_iinc (n := 78) dX8_rests_75 rfl (Nat.le_of_ble_eq_true rfl) rfl (q_nwid ⟨by omega, by omega⟩) (q_s1_s (q_s1_s (q_s1_s (q_s1_1 rfl)))) ?_
        refine q_go (t := 37) dX8_rests_78 (by decide) ?_
        rw [kfold]
        first
          | (have e : rsU p i b = 1 := by
               unfold rsU
               rw [if_neg (fun z => h45 z.1)]
               exact hb.resolve_left h45
             rw [e]
             exact ih (i + 1) 1 (by omega) (by omega) (Or.inr rfl))
          | (have h54' : ¬ num i 0 = 0 := fun z => h54 ⟨⟨h0, by omega⟩, z⟩
             have e : rsU p i b = 0 := by
               unfold rsU
               rw [if_neg (fun z => h54' z.2)]
               omega
             rw [e]
             exact ih (i + 1) 0 (by omega) (by omega) (Or.inl rfl))
          | (have e : rsU p i b = 1 := by
               unfold rsU
               rw [if_pos ⟨by omega, h54.2⟩, if_pos (hpi.mp h66)]
             rw [e]
             exact ih (i + 1) 1 (by omega) (by omega) (Or.inr rfl))
          | (have e : rsU p i b = 0 := by
               unfold rsU
               rw [if_pos ⟨by omega, h54.2⟩, if_neg (fun z => h66 (hpi.mpr z))]
             rw [e]
             exact ih (i + 1) 0 (by omega) (by omega) (Or.inl rfl))
      · skip
        refine q_aload_n (n := 49) dX8_rests_48 rfl rfl ?_
        refine q_iload (n := 51) dX8_rests_49 rfl rfl ?_
        refine q_v1D (n := 54) dX8_rests_51 rfl (zX8_isNeutral _ σ _ hI) vX8_isNeutral lX8_265 rfl rfl mi0 rfl ?_
        refine q_if_eq (n := 57) (t := 73) dX8_rests_54 rfl (by decide) (fun h54 => ?_) (fun h54 => ?_)
        · have h54 := q_b0.mp h54
          refine q_iconst (n := 74) dX8_rests_73 rfl (k := ?_)
          refine q_istore_n (n := 75) dX8_rests_74 rfl (Nat.le_of_ble_eq_true rfl) (q_s1_s (q_s1_s (q_s1_1 rfl))) ?_
          refine q_iinc (n := 78) dX8_rests_75 rfl (Nat.le_of_ble_eq_true rfl) rfl (q_nwid ⟨by omega, by omega⟩) (q_s1_s (q_s1_s (q_s1_s (q_s1_1 rfl)))) ?_
          refine q_go (t := 37) dX8_rests_78 (by decide) ?_
          rw [kfold]
          first
            | (have e : rsU p i b = 1 := by
                 unfold rsU
                 rw [if_neg (fun z => h45 z.1)]
                 exact hb.resolve_left h45
               rw [e]
               exact ih (i + 1) 1 (by omega) (by omega) (Or.inr rfl))
            | (have h54' : ¬ num i 0 = 0 := fun z => h54 ⟨⟨h0, by omega⟩, z⟩
               have e : rsU p i b = 0 := by
                 unfold rsU
                 rw [if_neg (fun z => h54' z.2)]
                 omega
               rw [e]
               exact ih (i + 1) 0 (by omega) (by omega) (Or.inl rfl))
            | (have e : rsU p i b = 1 := by
                 unfold rsU
                 rw [if_pos ⟨by omega, h54.2⟩, if_pos (hpi.mp h66)]
               rw [e]
               exact ih (i + 1) 1 (by omega) (by omega) (Or.inr rfl))
            | (have e : rsU p i b = 0 := by
                 unfold rsU
                 rw [if_pos ⟨by omega, h54.2⟩, if_neg (fun z => h66 (hpi.mpr z))]
               rw [e]
               exact ih (i + 1) 0 (by omega) (by omega) (Or.inl rfl))
        · have h54 := q_b1.mp h54
          refine q_aload_n (n := 58) dX8_rests_57 rfl rfl ?_
          refine q_iload_n (n := 59) dX8_rests_58 rfl rfl ?_
          refine q_iload_n (n := 60) dX8_rests_59 rfl rfl ?_
          refine q_iload (n := 62) dX8_rests_60 rfl rfl ?_
          refine q_iconst (n := 63) dX8_rests_62 rfl (k := ?_)
          refine q_v4D (n := 66) dX8_rests_63 rfl (zX8_isHeld v _ _ _ σ _ hI hv hnm hw hu) vX8_isHeld lX8_274 rfl rfl mi0 rfl ?_
          refine q_if_eq (n := 69) (t := 73) dX8_rests_66 rfl (by decide) (fun h66 => ?_) (fun h66 => ?_)
          · have h66 := q_b0.mp h66
            refine q_iconst (n := 74) dX8_rests_73 rfl (k := ?_)
            refine q_istore_n (n := 75) dX8_rests_74 rfl (Nat.le_of_ble_eq_true rfl) (q_s1_s (q_s1_s (q_s1_1 rfl))) ?_
            refine q_iinc (n := 78) dX8_rests_75 rfl (Nat.le_of_ble_eq_true rfl) rfl (q_nwid ⟨by omega, by omega⟩) (q_s1_s (q_s1_s (q_s1_s (q_s1_1 rfl)))) ?_
            refine q_go (t := 37) dX8_rests_78 (by decide) ?_
            rw [kfold]
            first
              | (have e : rsU p i b = 1 := by
                   unfold rsU
                   rw [if_neg (fun z => h45 z.1)]
                   exact hb.resolve_left h45
                 rw [e]
                 exact ih (i + 1) 1 (by omega) (by omega) (Or.inr rfl))
              | (have h54' : ¬ num i 0 = 0 := fun z => h54 ⟨⟨h0, by omega⟩, z⟩
                 have e : rsU p i b = 0 := by
                   unfold rsU
                   rw [if_neg (fun z => h54' z.2)]
                   omega
                 rw [e]
                 exact ih (i + 1) 0 (by omega) (by omega) (Or.inl rfl))
              | (have e : rsU p i b = 1 := by
                   unfold rsU
                   rw [if_pos ⟨by omega, h54.2⟩, if_pos (hpi.mp h66)]
                 rw [e]
                 exact ih (i + 1) 1 (by omega) (by omega) (Or.inr rfl))
              | (have e : rsU p i b = 0 := by
                   unfold rsU
                   rw [if_pos ⟨by omega, h54.2⟩, if_neg (fun z => h66 (hpi.mpr z))]
                 rw [e]
                 exact ih (i + 1) 0 (by omega) (by omega) (Or.inl rfl))
          · have h66 := q_b1.mp h66
            refine q_iconst (n := 70) dX8_rests_69 rfl (k := ?_)
            refine q_go (t := 74) dX8_rests_70 (by decide) ?_
            refine q_istore_n (n := 75) dX8_rests_74 rfl (Nat.le_of_ble_eq_true rfl) (q_s1_s (q_s1_s (q_s1_1 rfl))) ?_
            refine q_iinc (n := 78) dX8_rests_75 rfl (Nat.le_of_ble_eq_true rfl) rfl (q_nwid ⟨by omega, by omega⟩) (q_s1_s (q_s1_s (q_s1_s (q_s1_1 rfl)))) ?_
            refine q_go (t := 37) dX8_rests_78 (by decide) ?_
            rw [kfold]
            first
              | (have e : rsU p i b = 1 := by
                   unfold rsU
                   rw [if_neg (fun z => h45 z.1)]
                   exact hb.resolve_left h45
                 rw [e]
                 exact ih (i + 1) 1 (by omega) (by omega) (Or.inr rfl))
              | (have h54' : ¬ num i 0 = 0 := fun z => h54 ⟨⟨h0, by omega⟩, z⟩
                 have e : rsU p i b = 0 := by
                   unfold rsU
                   rw [if_neg (fun z => h54' z.2)]
                   omega
                 rw [e]
                 exact ih (i + 1) 0 (by omega) (by omega) (Or.inl rfl))
              | (have e : rsU p i b = 1 := by
                   unfold rsU
                   rw [if_pos ⟨by omega, h54.2⟩, if_pos (hpi.mp h66)]
                 rw [e]
                 exact ih (i + 1) 1 (by omega) (by omega) (Or.inr rfl))
              | (have e : rsU p i b = 0 := by
                   unfold rsU
                   rw [if_pos ⟨by omega, h54.2⟩, if_neg (fun z => h66 (hpi.mpr z))]
                 rw [e]
                 exact ih (i + 1) 0 (by omega) (by omega) (Or.inl rfl))
set_option maxRecDepth 100000 in
theorem zX8_rests (v L : Int) (σ s : q_S) (hI : IM σ) (hv : 0 ≤ v ∧ v < σ 1 2) : q_Ct mX8_rests shM [.inr (.inr 0), .inl v, .inl L] (ovM σ s) (fun r σ' => ∃ z, r = some z ∧ (z = .inl (if (akA (pM (σ 1) 2) (pM (σ 1) 3) (σ 1 1) (pM (σ 1) 6 v) (pM (σ 1) 7 v)).2.2.2.2 = 0 ∧ 0 < (wF L (ak2 (akA (pM (σ 1) 2) (pM (σ 1) 3) (σ 1 1) (pM (σ 1) 6 v) (pM (σ 1) 7 v)) (pM (σ 1) 6 v) 0)).2.2 then 1 else 0) ∧ ∃ s', σ' = ovM σ s')) := by
  refine q_ct 2 (by decide) rfl rfl ?_
  show q_WP mX8_rests shM 0 [some (.inr (.inr 0)), some (.inl v), some (.inl L), none, none] [] (ovM σ s) _
  have hn := hI.nt
  have hvv := hI.nv
  have hvt := hI.tie hv
  have hmc := mem_C hn hvt.2.2
  have ht1 := hvt.2.2.1
  have hun := akA_un (f := (pM (σ 1) 2)) (kd := (pM (σ 1) 3)) (nt := (σ 1 1)) (a := (pM (σ 1) 6 v)) (b := (pM (σ 1) 7 v))
  have hk00 := (akL_keep (f := (pM (σ 1) 2)) (kd := (pM (σ 1) 3)) (g := mF (pM (σ 1) 6 v) (pM (σ 1) 7 v) (σ 1 1)) (a := (pM (σ 1) 6 v)) (mC (pM (σ 1) 6 v) (pM (σ 1) 7 v) (σ 1 1)).toNat 0 A0 (by decide)).1
  have hk00 : 0 ≤ (akA (pM (σ 1) 2) (pM (σ 1) 3) (σ 1 1) (pM (σ 1) 6 v) (pM (σ 1) 7 v)).2.2.2.2 := hk00
  have hkl := @lawB_ag L
  have hw : (-1 : Int) = -1 ∨ 0 ≤ (-1 : Int) ∧ (-1 : Int) < 12 := Or.inl rfl
  refine q_aload_n (n := 1) dX8_rests_0 rfl rfl ?_
  refine q_iload_n (n := 2) dX8_rests_1 rfl rfl ?_
  refine q_v1 (n := 5) dX8_rests_2 rfl (zX8_untoldMany v σ _ hI hv) vX8_untoldMany lX8_268 rfl rfl mi0 rfl (fun v2 σ2 h2 => ?_)
  obtain ⟨rfl, s2, rfl⟩ := h2
  · skip
    refine q_if_le (n := 8) (t := 10) dX8_rests_5 rfl (by decide) (fun h5 => ?_) (fun h5 => ?_)
    · skip
      refine q_aload_n (n := 11) dX8_rests_10 rfl rfl ?_
      refine q_v0W (n := 14) dX8_rests_11 rfl (zX8_tellsNamed σ _ hI) vX8_tellsNamed lX8_271 rfl rfl mi0 rfl (fun σ11 h11 => ?_)
      obtain ⟨s11, rfl, hn11, hf11⟩ := h11
      have hk0 : (akA (pM (σ 1) 2) (pM (σ 1) 3) (σ 1 1) (pM (σ 1) 6 v) (pM (σ 1) 7 v)).2.2.2.2 = 0 := by omega
      have hnm := nmK_of hI hv hk0 hn11
      · skip
        refine q_aload_n (n := 15) dX8_rests_14 rfl rfl ?_
        refine q_iload_n (n := 16) dX8_rests_15 rfl rfl ?_
        refine q_iconst (n := 17) dX8_rests_16 rfl (k := ?_)
        refine q_v2D (n := 20) dX8_rests_17 rfl (zX8_vP2 _ σ _ ⟨by omega, by omega⟩) vX8_vertexAt lX8_185 rfl rfl mi0 rfl ?_
        refine q_if_lt (n := 23) (t := 32) dX8_rests_20 rfl (by decide) (fun h20 => ?_) (fun h20 => ?_)
        · skip
          refine q_iconst (n := 33) dX8_rests_32 rfl (k := ?_)
          refine q_istore_n (n := 34) dX8_rests_33 rfl (Nat.le_of_ble_eq_true rfl) (q_s1_s (q_s1_s (q_s1_1 rfl))) ?_
          refine q_iconst (n := 35) dX8_rests_34 rfl (k := ?_)
          refine q_istore (n := 37) dX8_rests_35 rfl (Nat.le_of_ble_eq_true rfl) (q_s1_s (q_s1_s (q_s1_s (q_s1_1 rfl)))) ?_
          have ha : (pM (σ 1) 6 v) = -1 := by omega
          have hag := fun i => hoE_eq (nm := s11 10) (u := i) (w := -1) hn hvt.2.2 hk0 (told_of hn11)
          refine (lpX8_re σ s11 v L hI hv hnm (fun i => lawB L (addE (akA (pM (σ 1) 2) (pM (σ 1) 3) (σ 1 1) (pM (σ 1) 6 v) (pM (σ 1) 7 v)).1 1 i)) (fun i i0 i1 => ?_) 12 0 0 (by decide) (by decide) (Or.inl rfl)).imp ?_
          · have h := hkl (hag i)
            unfold hoE at h
            rw [if_pos rfl, if_pos ha] at h
            exact h
          · rintro r σ' ⟨hr, hs⟩
            refine ⟨_, hr, congrArg Sum.inl ?_, s11, hs⟩
            have hm := @wF_m L (akA (pM (σ 1) 2) (pM (σ 1) 3) (σ 1 1) (pM (σ 1) 6 v) (pM (σ 1) 7 v)) hk0
            rw [ha] at hk0 hm ⊢
            rcases hm with ⟨h1, h2⟩ | ⟨h1, h2⟩
            · rw [h1, if_pos ⟨hk0, h2⟩]
            · rw [h1, if_neg (fun z => by omega)]
        · skip
          refine q_aload_n (n := 24) dX8_rests_23 rfl rfl ?_
          refine q_iload_n (n := 25) dX8_rests_24 rfl rfl ?_
          refine q_iload_n (n := 26) dX8_rests_25 rfl rfl ?_
          refine q_iconst (n := 27) dX8_rests_26 rfl (k := ?_)
          refine q_iconst (n := 28) dX8_rests_27 rfl (k := ?_)
          refine q_v4D (n := 31) dX8_rests_28 rfl (zX8_isHeld v _ _ _ σ _ hI hv hnm hw (fun z => by exfalso; omega)) vX8_isHeld lX8_274 rfl rfl mi0 rfl ?_
          refine q_iret dX8_rests_31 rfl (fun _ => by first | rfl | (split <;> rfl)) ?_
          have ha : (pM (σ 1) 6 v) ≠ -1 := by omega
          have hag := hoE_eq (nm := s11 10) (u := -1) (w := -1) hn hvt.2.2 hk0 (told_of hn11)
          have h := hkl hag
          unfold hoE at h
          rw [if_pos rfl, if_neg ha] at h
          have hwf := @wF_a L (akA (pM (σ 1) 2) (pM (σ 1) 3) (σ 1 1) (pM (σ 1) 6 v) (pM (σ 1) 7 v)) (pM (σ 1) 6 v) ha hk0
          refine ⟨_, rfl, congrArg Sum.inl ?_, s11, rfl⟩
          by_cases e : lawB L (akA (pM (σ 1) 2) (pM (σ 1) 3) (σ 1 1) (pM (σ 1) 6 v) (pM (σ 1) 7 v)).1 = true
          · rw [if_pos (h.mpr e), if_pos ⟨hk0, hwf.mpr e⟩]
          · rw [if_neg (fun z => e (h.mp z)), if_neg (fun z => e (hwf.mp z.2))]
    · skip
      refine q_iconst (n := 9) dX8_rests_8 rfl (k := ?_)
      refine q_iret dX8_rests_9 rfl (fun _ => by first | rfl | (split <;> rfl)) ?_
      exact ⟨_, rfl, congrArg Sum.inl (if_neg (fun z => by omega)).symm, _, rfl⟩
set_option maxRecDepth 100000 in
theorem lpX8_rr (σ : q_S) (L : Int) (hI : IM σ) (hvv : 0 ≤ σ 1 2 ∧ σ 1 2 ≤ 4) : ∀ (n : Nat) (i b : Int) (s : q_S), (n : Int) + i = σ 1 2 → 0 ≤ i → q_i32 b → q_WP mX8_rest shM 13 [some (.inr (.inr 0)), some (.inl L), some (.inl b), some (.inl i)] [] (ovM σ s) (fun r σ' => r = some (.inl (rsL (σ 1 1) (pM (σ 1) 2) (pM (σ 1) 3) (pM (σ 1) 6) (pM (σ 1) 7) L n i b)) ∧ ∃ s', σ' = ovM σ s') := by
  intro n
  induction n with
  | zero =>
    intro i b s hi h0 hb
    refine q_iload_n (n := 14) dX8_rest_13 rfl rfl ?_
    refine q_aload_n (n := 15) dX8_rest_14 rfl rfl ?_
    refine q_getR (n := 18) dX8_rest_15 rfl fX8_23 mi0 rfl ?_
    refine q_iconst (n := 19) dX8_rest_18 rfl (k := ?_)
    refine q_ialoadF (σ 1) (n := 20) dX8_rest_19 rfl mi1 ⟨by omega, by omega⟩ rfl ?_
    refine q_icmp_ge (n := 23) (t := 48) dX8_rest_20 rfl (by decide) (fun h20 => ?_) (fun h20 => ?_)
    · skip
      refine q_iload_n (n := 49) dX8_rest_48 rfl rfl ?_
      refine q_iret dX8_rest_49 rfl (fun _ => rfl) ?_
      exact ⟨rfl, _, rfl⟩
    · exact absurd h20 (by omega)
  | succ n ih =>
    intro i b s hi h0 hb
    refine q_iload_n (n := 14) dX8_rest_13 rfl rfl ?_
    refine q_aload_n (n := 15) dX8_rest_14 rfl rfl ?_
    refine q_getR (n := 18) dX8_rest_15 rfl fX8_23 mi0 rfl ?_
    refine q_iconst (n := 19) dX8_rest_18 rfl (k := ?_)
    refine q_ialoadF (σ 1) (n := 20) dX8_rest_19 rfl mi1 ⟨by omega, by omega⟩ rfl ?_
    refine q_icmp_ge (n := 23) (t := 48) dX8_rest_20 rfl (by decide) (fun h20 => ?_) (fun h20 => ?_)
    · exact absurd h20 (by omega)
    · skip
      refine q_iload_n (n := 24) dX8_rest_23 rfl rfl ?_
      refine q_aload_n (n := 25) dX8_rest_24 rfl rfl ?_
      refine q_iload_n (n := 26) dX8_rest_25 rfl rfl ?_
      refine q_iload_n (n := 27) dX8_rest_26 rfl rfl ?_
      refine q_v2 (n := 30) dX8_rest_27 rfl (zX8_rests i L σ _ hI ⟨h0, by omega⟩) vX8_rests lX8_294 rfl rfl mi0 rfl (fun v27 σ27 h27 => ?_)
      obtain ⟨rfl, s27, rfl⟩ := h27
      · skip
        refine q_if_eq (n := 33) (t := 39) dX8_rest_30 rfl (by decide) (fun h30 => ?_) (fun h30 => ?_)
        · have h30 := q_b0.mp h30
          refine q_iconst (n := 40) dX8_rest_39 rfl (k := ?_)
          refine q_ior (n := 41) dX8_rest_40 rfl ?_
          refine q_istore_n (n := 42) dX8_rest_41 rfl (Nat.le_of_ble_eq_true rfl) (q_s1_s (q_s1_1 rfl)) ?_
          refine q_iinc (n := 45) dX8_rest_42 rfl (Nat.le_of_ble_eq_true rfl) rfl (q_nwid ⟨by omega, by omega⟩) (q_s1_s (q_s1_s (q_s1_1 rfl))) ?_
          refine q_go (t := 13) dX8_rest_45 (by decide) ?_
          first
            | (rw [or_0 hb, rsL, if_neg h30]
               exact ih (i + 1) b _ (by omega) (by omega) hb)
            | (rw [rsL, if_pos h30]
               exact ih (i + 1) _ _ (by omega) (by omega) (q_or_32 _ _))
        · have h30 := q_b1.mp h30
          refine q_iconst (n := 34) dX8_rest_33 rfl (k := ?_)
          refine q_iload_n (n := 35) dX8_rest_34 rfl rfl ?_
          refine q_ishl (n := 36) dX8_rest_35 rfl ?_
          refine q_go (t := 40) dX8_rest_36 (by decide) ?_
          refine q_ior (n := 41) dX8_rest_40 rfl ?_
          refine q_istore_n (n := 42) dX8_rest_41 rfl (Nat.le_of_ble_eq_true rfl) (q_s1_s (q_s1_1 rfl)) ?_
          refine q_iinc (n := 45) dX8_rest_42 rfl (Nat.le_of_ble_eq_true rfl) rfl (q_nwid ⟨by omega, by omega⟩) (q_s1_s (q_s1_s (q_s1_1 rfl))) ?_
          refine q_go (t := 13) dX8_rest_45 (by decide) ?_
          first
            | (rw [or_0 hb, rsL, if_neg h30]
               exact ih (i + 1) b _ (by omega) (by omega) hb)
            | (rw [rsL, if_pos h30]
               exact ih (i + 1) _ _ (by omega) (by omega) (q_or_32 _ _))
set_option maxRecDepth 100000 in
theorem zX8_rest (L : Int) (σ s : q_S) (hI : IM σ) : q_Ct mX8_rest shM [.inr (.inr 0), .inl L] (ovM σ s) (fun r σ' => r = some (.inl (fRest (σ 1 1) (σ 1 2) (pM (σ 1) 2) (pM (σ 1) 3) (pM (σ 1) 6) (pM (σ 1) 7) L)) ∧ ∃ s', σ' = ovM σ s') := by
  refine q_ct 2 (by decide) rfl rfl ?_
  show q_WP mX8_rest shM 0 [some (.inr (.inr 0)), some (.inl L), none, none] [] (ovM σ s) _
  have hvv := hI.nv
  refine q_iload_n (n := 1) dX8_rest_0 rfl rfl ?_
  refine q_c1D (n := 4) dX8_rest_1 rfl (zX8_isLaw _ _ _) vX8_isLaw lX8_262 rfl rfl ?_
  refine q_if_ne (n := 7) (t := 9) dX8_rest_4 rfl (by decide) (fun h4 => ?_) (fun h4 => ?_)
  · have hL := q_b1.mp h4
    refine q_iconst (n := 10) dX8_rest_9 rfl (k := ?_)
    refine q_istore_n (n := 11) dX8_rest_10 rfl (Nat.le_of_ble_eq_true rfl) (q_s1_s (q_s1_1 rfl)) ?_
    refine q_iconst (n := 12) dX8_rest_11 rfl (k := ?_)
    refine q_istore_n (n := 13) dX8_rest_12 rfl (Nat.le_of_ble_eq_true rfl) (q_s1_s (q_s1_s (q_s1_1 rfl))) ?_
    unfold fRest
    rw [if_neg (fun z => z hL)]
    exact lpX8_rr σ L hI hvv (σ 1 2).toNat 0 0 s (by omega) (by decide) ⟨by decide, by decide⟩
  · have hL := q_b0.mp h4
    refine q_iconst (n := 8) dX8_rest_7 rfl (k := ?_)
    refine q_iret dX8_rest_8 rfl (fun _ => rfl) ?_
    unfold fRest
    rw [if_pos hL]
    exact ⟨rfl, _, rfl⟩
