theorem nmR_cvl {s : q_S} {A : q_A5} {L t : Int} {f : Int → Int} (h : nmR s A L) (ht : 0 ≤ t ∧ t < 8) : nmR (cvl s t f) A L := by
  unfold nmR at *
  rw [cvl_of (by omega), cvl_of (by omega), cvl_of (by omega), cvl_of (by omega), cvl_of (by omega)]
  exact h
theorem nmR_o {s s' : q_S} {A : q_A5} {L : Int} (h : nmR s A L) (ho : ∀ c : Int, c ≠ 83 → s' c = s c) : nmR s' A L := by
  unfold nmR at *
  rw [ho 90 (by decide), ho 85 (by decide), ho 86 (by decide), ho 87 (by decide), ho 84 (by decide)]
  exact h
theorem zC_begin (σ s : q_S) (L : Int) : q_Ct mX2_begin shX [.inr (.inr 84), .inl L] (ov σ s) (fun r σ' => r = none ∧ (∃ s', σ' = ov σ s' ∧ nmR s' A0 L ∧ ∀ c : Int, c ≠ 84 → c ≠ 90 → s' c = s c)) := by
  refine (zX2_begin L (ov σ s)).imp ?_
  rintro r σ' ⟨hr, rfl⟩
  refine ⟨hr, _, by rw [ov_up rfl, ov_up rfl, ov_up rfl, ov_row (fun _ => rfl)], ⟨⟨fun j h0 h1 => ?_, fun j h0 h1 => absurd h1 (by show ¬ j < 0; omega)⟩, ⟨fun j h0 h1 => absurd h1 (by show ¬ j < 0; omega), fun j h0 h1 => absurd h1 (by show ¬ j < 0; omega)⟩, ?_, ?_, ?_⟩, fun c h1 h2 => ?_⟩
  · rw [q_row_s]
    exact if_pos ⟨h0, h1⟩
  · rw [q_row_o (by decide), q_up_n (by decide), q_up_s]
    rfl
  · rw [q_row_o (by decide), q_up_n (by decide), q_up_n (by decide), q_up_s]
  · rw [q_row_o (by decide), q_up_s]
  · rw [q_row_o h2, q_up_o h1, q_up_o h1, q_up_o h1]
theorem zC_ask (σ s : q_S) (A : q_A5) (L a b d : Int) (h : nmR s A L) (hk : 0 ≤ A.2.2.2.2 ∧ A.2.2.2.2 < 5) : q_Ct mX2_ask shX [.inr (.inr 84), .inl a, .inl b, .inl d] (ov σ s) (fun r σ' => r = none ∧ (∃ s', σ' = ov σ s' ∧ nmR s' (pushA A a b d) L ∧ ∀ c : Int, (c < 84 ∨ 90 < c) → s' c = s c)) := by
  obtain ⟨⟨h1, h2⟩, ⟨h3, h4⟩, h5, h6, h7⟩ := h
  have e : ov σ s 84 7 = A.2.2.2.2 := h5
  refine (zX2_ask a b d (ov σ s) (by rw [e]; exact hk)).imp ?_
  rintro r σ' ⟨hr, rfl⟩
  rw [e]
  refine ⟨hr, _, by rw [ov_up rfl, ov_up rfl, ov_up rfl, ov_up rfl], ⟨⟨?_, ?_⟩, ⟨?_, ?_⟩, ?_, ?_, ?_⟩, fun c hc => ?_⟩
  · rw [q_up_o (by decide), q_up_o (by decide), q_up_o (by decide), q_up_o (by decide)]
    exact h1
  · rw [q_up_o (by decide), q_up_o (by decide), q_up_o (by decide), q_up_c]
    exact ag_ud h2 hk.1
  · rw [q_up_o (by decide), q_up_o (by decide), q_up_c, q_up_o (by decide)]
    exact ag_ud h3 hk.1
  · rw [q_up_o (by decide), q_up_c, q_up_o (by decide), q_up_o (by decide)]
    exact ag_ud h4 hk.1
  · rw [q_up_s]
    rfl
  · rw [q_up_n (by decide), q_up_o (by decide), q_up_o (by decide), q_up_o (by decide)]
    exact h6
  · rw [q_up_n (by decide), q_up_o (by decide), q_up_o (by decide), q_up_o (by decide)]
    exact h7
  · rw [q_up_o (by omega), q_up_o (by omega), q_up_o (by omega), q_up_o (by omega)]
theorem zC_weigh (σ s : q_S) (A : q_A5) (L kd sd : Int) (h : nmR s A L) (hk : 0 ≤ kd ∧ kd < 12) (hs : q_bd sd 1) (hE : ∀ j, 0 ≤ j → j < 4 → q_bd (A.1 j) 1000) : q_Ct mX2_weigh shX [.inr (.inr 84), .inl kd, .inl sd] (ov σ s) (fun r σ' => r = none ∧ (∃ s', σ' = ov σ s' ∧ nmR s' (addE A.1 sd kd, A.2) L ∧ ∀ c : Int, c ≠ 90 → s' c = s c)) := by
  obtain ⟨⟨h1, h2⟩, h3⟩ := h
  refine (zX2_weigh kd sd (ov σ s) hk hs (fun j a b => by rw [show ov σ s 90 j = s 90 j from rfl, h1 j a b]; exact hE j a b)).imp ?_
  rintro r σ' ⟨hr, rfl⟩
  refine ⟨hr, _, ov_row (fun _ => rfl), ⟨⟨?_, ?_⟩, ?_⟩, fun c hc => q_row_o hc⟩
  · rw [q_row_s]
    exact addE_ag (E := s 90) h1
  · rw [q_row_o (by decide)]
    exact h2
  · rw [q_row_o (by decide), q_row_o (by decide), q_row_o (by decide)]
    exact h3
theorem zC_isLawful (σ s : q_S) (A : q_A5) (L : Int) (h : nmR s A L) (hE : ∀ j, 0 ≤ j → j < 4 → q_bd (A.1 j) 1000) : q_Ct mX2_isLawful shX [.inr (.inr 84)] (ov σ s) (fun r σ' => r = some (.inl (if lawB L A.1 = true then 1 else 0)) ∧ σ' = ov σ s) := by
  obtain ⟨⟨h1, _⟩, _, _, h6, _⟩ := h
  refine (zX2_isLawful (ov σ s) (fun j a b => by rw [show ov σ s 90 j = s 90 j from rfl, h1 j a b]; exact hE j a b)).imp ?_
  rintro r σ' ⟨v, hr, h | h⟩
  · have e : lawB L A.1 = true := by
      rw [lawB_t, ← h6]
      exact (lawful_ag (E := s 90) h1).mp h.1
    rw [if_pos e, hr, h.2.1]
    exact ⟨rfl, h.2.2⟩
  · have e : ¬ lawB L A.1 = true := by
      rw [lawB_t, ← h6]
      exact fun z => h.1 ((lawful_ag (E := s 90) h1).mpr z)
    rw [if_neg e, hr, h.2.1]
    exact ⟨rfl, h.2.2⟩
theorem nmW_self {τ : q_S} : nmW τ (τ 88, τ 89, τ 84 8) (τ 90) = τ := by
  unfold nmW
  dsimp only
  rw [up_self, q_row_0, q_row_0, q_row_0]
theorem nmW_ov {σ s : q_S} {st : q_W3} {E : Int → Int} : nmW (ov σ s) st E = ov σ (nmW s st E) := by
  unfold nmW
  rw [ov_up rfl, ov_row (fun _ => rfl), ov_row (fun _ => rfl), ov_row (fun _ => rfl)]
theorem pow12 {n : Nat} (h : n ≤ 5) : (12 : Int) ^ n ≤ 1000000 := by
  match n, h with
  | 0, _ => decide
  | 1, _ => decide
  | 2, _ => decide
  | 3, _ => decide
  | 4, _ => decide
  | 5, _ => decide
theorem zC_search (σ s : q_S) (A : q_A5) (L : Int) (h : nmR s A L) (hA : akok 5 A) : q_Ct (mX2_search A.2.2.2.2.toNat) shX [.inr (.inr 84), .inl 0] (ov σ s) (fun r σ' => r = none ∧ (∃ s', σ' = ov σ s' ∧ s' 84 7 = A.2.2.2.2 ∧ ag A.2.2.2.2 (s' 85) A.2.1 ∧ s' 84 8 = (wF L A).2.2 ∧ ((wF L A).2.2 ≠ 0 → ag A.2.2.2.2 (s' 89) (wF L A).2.1))) := by
  obtain ⟨⟨h1, h2⟩, ⟨h3, h4⟩, h5, h6, h7⟩ := h
  obtain ⟨a1, a2, a3⟩ := hA
  have e1 : ov σ s 84 7 = A.2.2.2.2 := h5
  have hz := zX2_search (ov σ s) (by rw [e1]; exact a1.2) (fun j x y => by rw [e1] at y; rw [show ov σ s 87 j = s 87 j from rfl, h4 j x y]; exact a3 j x y) A.2.2.2.2.toNat 0 (ov σ s 90) (ov σ s 88, ov σ s 89, ov σ s 84 8) (by rw [e1]; omega) (by decide) (fun j x y => by rw [show ov σ s 90 j = s 90 j from rfl, h1 j x y]; exact bd_le (a2 j x y) (by decide)) (by show 0 ≤ s 84 8; omega) (by have := pow12 (n := A.2.2.2.2.toNat) (by omega); show s 84 8 + _ ≤ _; omega)
  rw [nmW_self] at hz
  refine hz.imp ?_
  rintro r σ' ⟨hr, rfl⟩
  have hs := srch_en (ch := s 86) (sd := s 87) (L := L) (A := A) a1 h3 h4 A.2.2.2.2.toNat 0 (s 90) (fun _ => 0) (s 88, s 89, s 84 8) (fun _ => 0, fun _ => 0, 0) (by omega) (by decide) h1 ⟨⟨fun j x y => by omega, fun j x y => by omega⟩, h7, fun z => absurd h7 z, by show 0 ≤ s 84 8; omega⟩
  refine ⟨hr, _, nmW_ov, ?_, ?_, ?_, ?_⟩
  · rw [nmW_o (by decide)]
    exact h5
  · have e : ∀ st E, nmW s st E 85 = s 85 := fun st E => by
      funext x
      exact nmW_o ⟨by decide, by decide, by decide, by omega⟩
    rw [e]
    exact h2
  · rw [nmW_W]
    rw [show ov σ s 84 6 = L from h6]
    exact hs.2.1
  · intro hw
    rw [nmW_F]
    rw [show ov σ s 84 6 = L from h6]
    refine hs.2.2.1 ?_
    rw [hs.2.1]
    exact hw
set_option maxHeartbeats 1000000 in
set_option maxRecDepth 100000 in
theorem lpX7_ak (σ : q_S) (v L : Int) (hI : IX σ) (hv : 0 ≤ v ∧ v < σ 1 2) (hc : mC (σ 6 v) (σ 7 v) (σ 1 1) ≤ 4) : ∀ (n : Nat) (i : Int) (s : q_S) (A : q_A5) (o5 o6 : Option q_V), (n : Int) + i = mC (σ 6 v) (σ 7 v) (σ 1 1) → 0 ≤ i → (∀ j, 0 ≤ j → j < mC (σ 6 v) (σ 7 v) (σ 1 1) → s 83 j = mF (σ 6 v) (σ 7 v) (σ 1 1) j) → nmR s A L → akok i A → q_WP mX7_askTracks shX 24 [some (.inr (.inr 0)), some (.inl v), some (.inl L), some (.inl (mC (σ 6 v) (σ 7 v) (σ 1 1))), some (.inl i), o5, o6] [] (ov σ s) (fun r σ' => ∃ z, r = some z ∧ (z = .inl (akL (σ 2) (σ 3) (σ 6 v) (mF (σ 6 v) (σ 7 v) (σ 1 1)) n i A).2.2.2.2 ∧ ∃ s', σ' = ov σ s' ∧ nmR s' (akL (σ 2) (σ 3) (σ 6 v) (mF (σ 6 v) (σ 7 v) (σ 1 1)) n i A) L)) := by
  have hvv := hI.1.2.2.1
  have hn := hI.1.2.1
  intro n
  induction n with
  | zero =>
    intro i s A o5 o6 hi h0 hm hr hA
    refine q_iload (n := 26) dX7_askTracks_24 rfl rfl ?_
    refine q_iload_n (n := 27) dX7_askTracks_26 rfl rfl ?_
    refine q_icmp_ge (n := 30) (t := 123) dX7_askTracks_27 rfl (by decide) (fun h27 => ?_) (fun h27 => ?_)
    · skip
      refine q_aload_n (n := 124) dX7_askTracks_123 rfl rfl ?_
      refine q_getR (n := 127) dX7_askTracks_124 rfl fX7_55 xi0 rfl ?_
      refine q_getIE (A.2.2.2.2) (kI := 7) (n := 130) (by decide) dX7_askTracks_127 rfl fX7_265 xi84 rfl rfl hr.2.2.1 ?_
      refine q_iret dX7_askTracks_130 rfl (fun _ => rfl) ?_
      exact ⟨_, rfl, rfl, _, rfl, hr⟩
    · exact absurd h27 (by omega)
  | succ n ih =>
    intro i s A o5 o6 hi h0 hm hr hA
    have ht0 := hI.mem hv (j := i) ⟨h0, by omega⟩
    have hmi := hm i h0 (by omega)
    obtain ⟨t, ht⟩ : ∃ t, t = mF (σ 6 v) (σ 7 v) (σ 1 1) i := ⟨_, rfl⟩
    rw [← ht] at ht0 hmi
    have ht8 : 0 ≤ t ∧ t < 8 := by omega
    have hg := hI.pt ht0
    have hkd := hI.1.2.2.2.2.1 t ht0.1 ht0.2
    have hk0 := hA.1
    refine q_iload (n := 26) dX7_askTracks_24 rfl rfl ?_
    refine q_iload_n (n := 27) dX7_askTracks_26 rfl rfl ?_
    refine q_icmp_ge (n := 30) (t := 123) dX7_askTracks_27 rfl (by decide) (fun h27 => ?_) (fun h27 => ?_)
    · exact absurd h27 (by omega)
    · skip
      refine q_aload_n (n := 31) dX7_askTracks_30 rfl rfl ?_
      refine q_getR (n := 34) dX7_askTracks_31 rfl fX7_48 xi0 rfl ?_
      refine q_iload (n := 36) dX7_askTracks_34 rfl rfl ?_
      refine q_ialoadE (t) (n := 37) dX7_askTracks_36 rfl xi83 ⟨by omega, by omega⟩ hmi ?_
      refine q_istore (n := 39) dX7_askTracks_37 rfl (Nat.le_of_ble_eq_true rfl) (q_s1_s (q_s1_s (q_s1_s (q_s1_s (q_s1_1 rfl))))) ?_
      refine q_iload (n := 41) dX7_askTracks_39 rfl rfl ?_
      refine q_aload_n (n := 42) dX7_askTracks_41 rfl rfl ?_
      refine q_getR (n := 45) dX7_askTracks_42 rfl fX7_12 xi0 rfl ?_
      refine q_getR (n := 48) dX7_askTracks_45 rfl fX7_144 xi1 rfl ?_
      refine q_iload_n (n := 49) dX7_askTracks_48 rfl rfl ?_
      refine q_ialoadF (σ 6) (n := 50) dX7_askTracks_49 rfl xi6 ⟨by omega, by omega⟩ rfl ?_
      refine q_icmp_ne (n := 53) (t := 57) dX7_askTracks_50 rfl (by decide) (fun h50 => ?_) (fun h50 => ?_)
      · skip
        refine q_iconst (n := 58) dX7_askTracks_57 rfl (k := ?_)
        refine q_istore (n := 60) dX7_askTracks_58 rfl (Nat.le_of_ble_eq_true rfl) (q_s1_s (q_s1_s (q_s1_s (q_s1_s (q_s1_s (q_s1_1 rfl)))))) ?_
        refine q_aload_n (n := 61) dX7_askTracks_60 rfl rfl ?_
        refine q_getR (n := 64) dX7_askTracks_61 rfl fX7_12 xi0 rfl ?_
        refine q_getR (n := 67) dX7_askTracks_64 rfl fX7_123 xi1 rfl ?_
        refine q_iload (n := 69) dX7_askTracks_67 rfl rfl ?_
        refine q_ialoadF (σ 3) (n := 70) dX7_askTracks_69 rfl xi3 ⟨by omega, by omega⟩ rfl ?_
        refine q_bipush (n := 72) dX7_askTracks_70 rfl (k := ?_)
        refine q_icmp_ne (n := 75) (t := 98) dX7_askTracks_72 rfl (by decide) (fun h72 => ?_) (fun h72 => ?_)
        · skip
          refine q_aload_n (n := 99) dX7_askTracks_98 rfl rfl ?_
          refine q_getR (n := 102) dX7_askTracks_99 rfl fX7_55 xi0 rfl ?_
          refine q_aload_n (n := 103) dX7_askTracks_102 rfl rfl ?_
          refine q_getR (n := 106) dX7_askTracks_103 rfl fX7_12 xi0 rfl ?_
          refine q_getR (n := 109) dX7_askTracks_106 rfl fX7_123 xi1 rfl ?_
          refine q_iload (n := 111) dX7_askTracks_109 rfl rfl ?_
          refine q_ialoadF (σ 3) (n := 112) dX7_askTracks_111 rfl xi3 ⟨by omega, by omega⟩ rfl ?_
          refine q_iload (n := 114) dX7_askTracks_112 rfl rfl ?_
          refine q_v2W (n := 117) dX7_askTracks_114 rfl (zC_weigh _ _ A L _ _ hr ⟨by omega, by omega⟩ ⟨by decide, by decide⟩ (fun j x y => bd_le (hA.2.1 j x y) (by omega))) vX2_weigh lX7_252 rfl rfl xi84 rfl (fun σ114 h114 => ?_)
          obtain ⟨s2, rfl, hr2, hro⟩ := h114
          · skip
            refine q_iinc (n := 120) dX7_askTracks_117 rfl (Nat.le_of_ble_eq_true rfl) rfl (q_nwid ⟨by omega, by omega⟩) (q_s1_s (q_s1_s (q_s1_s (q_s1_1 rfl)))) ?_
            refine q_go (t := 24) dX7_askTracks_120 (by decide) ?_
            rw [akL, ← ht]
            have hA2 := akok_S (f := σ 2) (a := σ 6 v) hA hkd
            first
              | (have e : akS (σ 2) (σ 3) (σ 6 v) t A = pushA A t (sgn (lB (σ 2) (6 * t))) 1 := by unfold akS; rw [if_pos h72, if_pos h50]
                 rw [e] at hA2 ⊢
                 exact ih (i + 1) _ _ _ _ (by omega) (by omega) (fun j h1 h2 => by rw [hro 83 (by omega), cvl_of (by omega)]; exact hm j h1 h2) hr2 hA2)
              | (have e : akS (σ 2) (σ 3) (σ 6 v) t A = pushA A t (sgn (lB (σ 2) (6 * t))) (-1) := by unfold akS; rw [if_pos h72, if_neg h50]
                 rw [e] at hA2 ⊢
                 exact ih (i + 1) _ _ _ _ (by omega) (by omega) (fun j h1 h2 => by rw [hro 83 (by omega), cvl_of (by omega)]; exact hm j h1 h2) hr2 hA2)
              | (have e : akS (σ 2) (σ 3) (σ 6 v) t A = (addE A.1 1 (σ 3 t), A.2) := by unfold akS; rw [if_neg h72, if_pos h50]
                 rw [e] at hA2 ⊢
                 exact ih (i + 1) _ _ _ _ (by omega) (by omega) (fun j h1 h2 => by rw [hro 83 (by omega)]; exact hm j h1 h2) hr2 hA2)
              | (have e : akS (σ 2) (σ 3) (σ 6 v) t A = (addE A.1 (-1) (σ 3 t), A.2) := by unfold akS; rw [if_neg h72, if_neg h50]
                 rw [e] at hA2 ⊢
                 exact ih (i + 1) _ _ _ _ (by omega) (by omega) (fun j h1 h2 => by rw [hro 83 (by omega)]; exact hm j h1 h2) hr2 hA2)
        · skip
          refine q_aload_n (n := 76) dX7_askTracks_75 rfl rfl ?_
          refine q_getR (n := 79) dX7_askTracks_76 rfl fX7_55 xi0 rfl ?_
          refine q_iload (n := 81) dX7_askTracks_79 rfl rfl ?_
          refine q_aload_n (n := 82) dX7_askTracks_81 rfl rfl ?_
          refine q_iload (n := 84) dX7_askTracks_82 rfl rfl ?_
          refine q_v1D (n := 87) dX7_askTracks_84 rfl (zX7_curveOf σ _ t hI ht0) vX7_curveOf lX7_116 rfl rfl xi0 rfl ?_
          refine q_v0D (n := 90) dX7_askTracks_87 rfl (zC_turn _ _ _ t ht8 laid_cvl) vX0_turn lX7_120 rfl rfl (curN t ht8) rfl ?_
          refine q_iload (n := 92) dX7_askTracks_90 rfl rfl ?_
          refine q_v3W (n := 95) dX7_askTracks_92 rfl (zC_ask _ _ A L _ _ _ (nmR_cvl hr ht8) ⟨by omega, by omega⟩) vX2_ask lX7_376 rfl rfl xi84 rfl (fun σ92 h92 => ?_)
          obtain ⟨s2, rfl, hr2, hro⟩ := h92
          · skip
            refine q_go (t := 117) dX7_askTracks_95 (by decide) ?_
            refine q_iinc (n := 120) dX7_askTracks_117 rfl (Nat.le_of_ble_eq_true rfl) rfl (q_nwid ⟨by omega, by omega⟩) (q_s1_s (q_s1_s (q_s1_s (q_s1_1 rfl)))) ?_
            refine q_go (t := 24) dX7_askTracks_120 (by decide) ?_
            rw [akL, ← ht]
            have hA2 := akok_S (f := σ 2) (a := σ 6 v) hA hkd
            first
              | (have e : akS (σ 2) (σ 3) (σ 6 v) t A = pushA A t (sgn (lB (σ 2) (6 * t))) 1 := by unfold akS; rw [if_pos h72, if_pos h50]
                 rw [e] at hA2 ⊢
                 exact ih (i + 1) _ _ _ _ (by omega) (by omega) (fun j h1 h2 => by rw [hro 83 (by omega), cvl_of (by omega)]; exact hm j h1 h2) hr2 hA2)
              | (have e : akS (σ 2) (σ 3) (σ 6 v) t A = pushA A t (sgn (lB (σ 2) (6 * t))) (-1) := by unfold akS; rw [if_pos h72, if_neg h50]
                 rw [e] at hA2 ⊢
                 exact ih (i + 1) _ _ _ _ (by omega) (by omega) (fun j h1 h2 => by rw [hro 83 (by omega), cvl_of (by omega)]; exact hm j h1 h2) hr2 hA2)
              | (have e : akS (σ 2) (σ 3) (σ 6 v) t A = (addE A.1 1 (σ 3 t), A.2) := by unfold akS; rw [if_neg h72, if_pos h50]
                 rw [e] at hA2 ⊢
                 exact ih (i + 1) _ _ _ _ (by omega) (by omega) (fun j h1 h2 => by rw [hro 83 (by omega)]; exact hm j h1 h2) hr2 hA2)
              | (have e : akS (σ 2) (σ 3) (σ 6 v) t A = (addE A.1 (-1) (σ 3 t), A.2) := by unfold akS; rw [if_neg h72, if_neg h50]
                 rw [e] at hA2 ⊢
                 exact ih (i + 1) _ _ _ _ (by omega) (by omega) (fun j h1 h2 => by rw [hro 83 (by omega)]; exact hm j h1 h2) hr2 hA2)
      · skip
        refine q_iconst (n := 54) dX7_askTracks_53 rfl (k := ?_)
        refine q_go (t := 58) dX7_askTracks_54 (by decide) ?_
        refine q_istore (n := 60) dX7_askTracks_58 rfl (Nat.le_of_ble_eq_true rfl) (q_s1_s (q_s1_s (q_s1_s (q_s1_s (q_s1_s (q_s1_1 rfl)))))) ?_
        refine q_aload_n (n := 61) dX7_askTracks_60 rfl rfl ?_
        refine q_getR (n := 64) dX7_askTracks_61 rfl fX7_12 xi0 rfl ?_
        refine q_getR (n := 67) dX7_askTracks_64 rfl fX7_123 xi1 rfl ?_
        refine q_iload (n := 69) dX7_askTracks_67 rfl rfl ?_
        refine q_ialoadF (σ 3) (n := 70) dX7_askTracks_69 rfl xi3 ⟨by omega, by omega⟩ rfl ?_
        refine q_bipush (n := 72) dX7_askTracks_70 rfl (k := ?_)
        refine q_icmp_ne (n := 75) (t := 98) dX7_askTracks_72 rfl (by decide) (fun h72 => ?_) (fun h72 => ?_)
        · skip
          refine q_aload_n (n := 99) dX7_askTracks_98 rfl rfl ?_
          refine q_getR (n := 102) dX7_askTracks_99 rfl fX7_55 xi0 rfl ?_
          refine q_aload_n (n := 103) dX7_askTracks_102 rfl rfl ?_
          refine q_getR (n := 106) dX7_askTracks_103 rfl fX7_12 xi0 rfl ?_
          refine q_getR (n := 109) dX7_askTracks_106 rfl fX7_123 xi1 rfl ?_
          refine q_iload (n := 111) dX7_askTracks_109 rfl rfl ?_
          refine q_ialoadF (σ 3) (n := 112) dX7_askTracks_111 rfl xi3 ⟨by omega, by omega⟩ rfl ?_
          refine q_iload (n := 114) dX7_askTracks_112 rfl rfl ?_
          refine q_v2W (n := 117) dX7_askTracks_114 rfl (zC_weigh _ _ A L _ _ hr ⟨by omega, by omega⟩ ⟨by decide, by decide⟩ (fun j x y => bd_le (hA.2.1 j x y) (by omega))) vX2_weigh lX7_252 rfl rfl xi84 rfl (fun σ114 h114 => ?_)
          obtain ⟨s2, rfl, hr2, hro⟩ := h114
          · skip
            refine q_iinc (n := 120) dX7_askTracks_117 rfl (Nat.le_of_ble_eq_true rfl) rfl (q_nwid ⟨by omega, by omega⟩) (q_s1_s (q_s1_s (q_s1_s (q_s1_1 rfl)))) ?_
            refine q_go (t := 24) dX7_askTracks_120 (by decide) ?_
            rw [akL, ← ht]
            have hA2 := akok_S (f := σ 2) (a := σ 6 v) hA hkd
            first
              | (have e : akS (σ 2) (σ 3) (σ 6 v) t A = pushA A t (sgn (lB (σ 2) (6 * t))) 1 := by unfold akS; rw [if_pos h72, if_pos h50]
                 rw [e] at hA2 ⊢
                 exact ih (i + 1) _ _ _ _ (by omega) (by omega) (fun j h1 h2 => by rw [hro 83 (by omega), cvl_of (by omega)]; exact hm j h1 h2) hr2 hA2)
              | (have e : akS (σ 2) (σ 3) (σ 6 v) t A = pushA A t (sgn (lB (σ 2) (6 * t))) (-1) := by unfold akS; rw [if_pos h72, if_neg h50]
                 rw [e] at hA2 ⊢
                 exact ih (i + 1) _ _ _ _ (by omega) (by omega) (fun j h1 h2 => by rw [hro 83 (by omega), cvl_of (by omega)]; exact hm j h1 h2) hr2 hA2)
              | (have e : akS (σ 2) (σ 3) (σ 6 v) t A = (addE A.1 1 (σ 3 t), A.2) := by unfold akS; rw [if_neg h72, if_pos h50]
                 rw [e] at hA2 ⊢
                 exact ih (i + 1) _ _ _ _ (by omega) (by omega) (fun j h1 h2 => by rw [hro 83 (by omega)]; exact hm j h1 h2) hr2 hA2)
              | (have e : akS (σ 2) (σ 3) (σ 6 v) t A = (addE A.1 (-1) (σ 3 t), A.2) := by unfold akS; rw [if_neg h72, if_neg h50]
                 rw [e] at hA2 ⊢
                 exact ih (i + 1) _ _ _ _ (by omega) (by omega) (fun j h1 h2 => by rw [hro 83 (by omega)]; exact hm j h1 h2) hr2 hA2)
        · skip
          refine q_aload_n (n := 76) dX7_askTracks_75 rfl rfl ?_
          refine q_getR (n := 79) dX7_askTracks_76 rfl fX7_55 xi0 rfl ?_
          refine q_iload (n := 81) dX7_askTracks_79 rfl rfl ?_
          refine q_aload_n (n := 82) dX7_askTracks_81 rfl rfl ?_
          refine q_iload (n := 84) dX7_askTracks_82 rfl rfl ?_
          refine q_v1D (n := 87) dX7_askTracks_84 rfl (zX7_curveOf σ _ t hI ht0) vX7_curveOf lX7_116 rfl rfl xi0 rfl ?_
          refine q_v0D (n := 90) dX7_askTracks_87 rfl (zC_turn _ _ _ t ht8 laid_cvl) vX0_turn lX7_120 rfl rfl (curN t ht8) rfl ?_
          refine q_iload (n := 92) dX7_askTracks_90 rfl rfl ?_
          refine q_v3W (n := 95) dX7_askTracks_92 rfl (zC_ask _ _ A L _ _ _ (nmR_cvl hr ht8) ⟨by omega, by omega⟩) vX2_ask lX7_376 rfl rfl xi84 rfl (fun σ92 h92 => ?_)
          obtain ⟨s2, rfl, hr2, hro⟩ := h92
          · skip
            refine q_go (t := 117) dX7_askTracks_95 (by decide) ?_
            refine q_iinc (n := 120) dX7_askTracks_117 rfl (Nat.le_of_ble_eq_true rfl) rfl (q_nwid ⟨by omega, by omega⟩) (q_s1_s (q_s1_s (q_s1_s (q_s1_1 rfl)))) ?_
            refine q_go (t := 24) dX7_askTracks_120 (by decide) ?_
            rw [akL, ← ht]
            have hA2 := akok_S (f := σ 2) (a := σ 6 v) hA hkd
            first
              | (have e : akS (σ 2) (σ 3) (σ 6 v) t A = pushA A t (sgn (lB (σ 2) (6 * t))) 1 := by unfold akS; rw [if_pos h72, if_pos h50]
                 rw [e] at hA2 ⊢
                 exact ih (i + 1) _ _ _ _ (by omega) (by omega) (fun j h1 h2 => by rw [hro 83 (by omega), cvl_of (by omega)]; exact hm j h1 h2) hr2 hA2)
              | (have e : akS (σ 2) (σ 3) (σ 6 v) t A = pushA A t (sgn (lB (σ 2) (6 * t))) (-1) := by unfold akS; rw [if_pos h72, if_neg h50]
                 rw [e] at hA2 ⊢
                 exact ih (i + 1) _ _ _ _ (by omega) (by omega) (fun j h1 h2 => by rw [hro 83 (by omega), cvl_of (by omega)]; exact hm j h1 h2) hr2 hA2)
              | (have e : akS (σ 2) (σ 3) (σ 6 v) t A = (addE A.1 1 (σ 3 t), A.2) := by unfold akS; rw [if_neg h72, if_pos h50]
                 rw [e] at hA2 ⊢
                 exact ih (i + 1) _ _ _ _ (by omega) (by omega) (fun j h1 h2 => by rw [hro 83 (by omega)]; exact hm j h1 h2) hr2 hA2)
              | (have e : akS (σ 2) (σ 3) (σ 6 v) t A = (addE A.1 (-1) (σ 3 t), A.2) := by unfold akS; rw [if_neg h72, if_neg h50]
                 rw [e] at hA2 ⊢
                 exact ih (i + 1) _ _ _ _ (by omega) (by omega) (fun j h1 h2 => by rw [hro 83 (by omega)]; exact hm j h1 h2) hr2 hA2)
set_option maxRecDepth 100000 in
theorem zX7_askTracks (v L : Int) (σ s : q_S) (hI : IX σ) (hv : 0 ≤ v ∧ v < σ 1 2) : q_Ct mX7_askTracks shX [.inr (.inr 0), .inl v, .inl L] (ov σ s) (fun r σ' => ∃ z, r = some z ∧ (z = .inl (akA (σ 2) (σ 3) (σ 1 1) (σ 6 v) (σ 7 v)).2.2.2.2 ∧ ∃ s', σ' = ov σ s' ∧ nmR s' (akA (σ 2) (σ 3) (σ 1 1) (σ 6 v) (σ 7 v)) L)) := by
  refine q_ct 4 (by decide) rfl rfl ?_
  show q_WP mX7_askTracks shX 0 [some (.inr (.inr 0)), some (.inl v), some (.inl L), none, none, none, none] [] (ov σ s) _
  have hI0 := hI
  have hvt := hI0.tie hv
  have hn := hI0.1.2.1
  have hc := mem_C hn hvt.2.2
  refine q_aload_n (n := 1) dX7_askTracks_0 rfl rfl ?_
  refine q_getR (n := 4) dX7_askTracks_1 rfl fX7_55 xi0 rfl ?_
  refine q_iload_n (n := 5) dX7_askTracks_4 rfl rfl ?_
  refine q_v1W (n := 8) dX7_askTracks_5 rfl (zC_begin _ _ L) vX2_begin lX7_373 rfl rfl xi84 rfl (fun σ5 h5 => ?_)
  obtain ⟨s0, rfl, hr0, hro0⟩ := h5
  · skip
    refine q_aload_n (n := 9) dX7_askTracks_8 rfl rfl ?_
    refine q_getR (n := 12) dX7_askTracks_9 rfl fX7_12 xi0 rfl ?_
    refine q_iload_n (n := 13) dX7_askTracks_12 rfl rfl ?_
    refine q_aload_n (n := 14) dX7_askTracks_13 rfl rfl ?_
    refine q_getR (n := 17) dX7_askTracks_14 rfl fX7_48 xi0 rfl ?_
    refine q_v2 (n := 20) dX7_askTracks_17 rfl (zC_members _ _ v hI0 hv) vX3_membersOf lX7_327 rfl rfl xi1 rfl (fun v17 σ17 h17 => ?_)
    obtain ⟨rfl, s1, rfl, hm, ho⟩ := h17
    · skip
      refine q_istore_n (n := 21) dX7_askTracks_20 rfl (Nat.le_of_ble_eq_true rfl) (q_s1_s (q_s1_s (q_s1_1 rfl))) ?_
      refine q_iconst (n := 22) dX7_askTracks_21 rfl (k := ?_)
      refine q_istore (n := 24) dX7_askTracks_22 rfl (Nat.le_of_ble_eq_true rfl) (q_s1_s (q_s1_s (q_s1_s (q_s1_1 rfl)))) ?_
      exact lpX7_ak σ v L hI hv hc.1.2 (mC (σ 6 v) (σ 7 v) (σ 1 1)).toNat 0 _ A0 _ _ (by omega) (by omega) hm (nmR_o hr0 ho) akok_0
theorem IX.aks {σ : q_S} (hI : IX σ) {v : Int} (hv : 0 ≤ v ∧ v < σ 1 2) : akok (mC (σ 6 v) (σ 7 v) (σ 1 1)) (akA (σ 2) (σ 3) (σ 1 1) (σ 6 v) (σ 7 v)) := by
  have hn := hI.1.2.1
  have hc := mem_C hn (hI.tie hv).2.2
  have := akL_ok (a := σ 6 v) (f := σ 2) (kd := σ 3) (g := mF (σ 6 v) (σ 7 v) (σ 1 1)) (mC (σ 6 v) (σ 7 v) (σ 1 1)).toNat 0 A0 akok_0 (fun j h1 h2 => by
    have := hI.mem hv (j := j) ⟨h1, by omega⟩
    exact hI.1.2.2.2.2.1 _ this.1 this.2)
  rw [show (0 : Int) + (mC (σ 6 v) (σ 7 v) (σ 1 1)).toNat = mC (σ 6 v) (σ 7 v) (σ 1 1) by omega] at this
  exact this
theorem akok_le {i j : Int} {A : q_A5} (h : akok i A) (hij : i ≤ j) : akok j A := ⟨⟨h.1.1, by have := h.1.2; omega⟩, fun k a b => bd_le (h.2.1 k a b) hij, h.2.2⟩
theorem IX.aks2 {σ : q_S} (hI : IX σ) {v : Int} (hv : 0 ≤ v ∧ v < σ 1 2) (w : Int) : akok 5 (ak2 (akA (σ 2) (σ 3) (σ 1 1) (σ 6 v) (σ 7 v)) (σ 6 v) w) := by
  have hA := hI.aks hv
  have hc := mem_C hI.1.2.1 (hI.tie hv).2.2
  have h1 : q_bd 1 1 := ⟨by decide, by decide⟩
  have h2 : q_bd (-1) 1 := ⟨by decide, by decide⟩
  unfold ak2
  by_cases ha : σ 6 v = -1
  · rw [if_pos ha]
    by_cases hw : w = 1
    · rw [if_pos hw]
      exact akok_le (akok_push (akok_push hA h1) h2) (by omega)
    · rw [if_neg hw]
      exact akok_le (akok_push hA h1) (by omega)
  · rw [if_neg ha]
    by_cases hw : w = 1
    · rw [if_pos hw]
      exact akok_le (akok_push hA h2) (by omega)
    · rw [if_neg hw]
      exact akok_le hA (by omega)
set_option maxRecDepth 100000 in
theorem zX7_waysWith (v w L : Int) (σ s : q_S) (hI : IX σ) (hv : 0 ≤ v ∧ v < σ 1 2) (hr : nmR s (akA (σ 2) (σ 3) (σ 1 1) (σ 6 v) (σ 7 v)) L) : q_Ct mX7_waysWith shX [.inr (.inr 0), .inl v, .inl w] (ov σ s) (fun r σ' => ∃ z, r = some z ∧ (z = .inl (wF L (ak2 (akA (σ 2) (σ 3) (σ 1 1) (σ 6 v) (σ 7 v)) (σ 6 v) w)).2.2 ∧ ∃ s', σ' = ov σ s' ∧ s' 84 7 = (ak2 (akA (σ 2) (σ 3) (σ 1 1) (σ 6 v) (σ 7 v)) (σ 6 v) w).2.2.2.2 ∧ ag (ak2 (akA (σ 2) (σ 3) (σ 1 1) (σ 6 v) (σ 7 v)) (σ 6 v) w).2.2.2.2 (s' 85) (ak2 (akA (σ 2) (σ 3) (σ 1 1) (σ 6 v) (σ 7 v)) (σ 6 v) w).2.1 ∧ ((wF L (ak2 (akA (σ 2) (σ 3) (σ 1 1) (σ 6 v) (σ 7 v)) (σ 6 v) w)).2.2 ≠ 0 → ag (ak2 (akA (σ 2) (σ 3) (σ 1 1) (σ 6 v) (σ 7 v)) (σ 6 v) w).2.2.2.2 (s' 89) (wF L (ak2 (akA (σ 2) (σ 3) (σ 1 1) (σ 6 v) (σ 7 v)) (σ 6 v) w)).2.1))) := by
  refine q_ct 0 (by decide) rfl rfl ?_
  show q_WP mX7_waysWith shX 0 [some (.inr (.inr 0)), some (.inl v), some (.inl w)] [] (ov σ s) _
  have hvv := hI.1.2.2.1
  have hA := hI.aks hv
  have hc := mem_C hI.1.2.1 (hI.tie hv).2.2
  have hA2 := (hI.aks2 hv w).1
  have hk0 := hA.1
  have hpk : ∀ ow ch sd, (pushA (akA (σ 2) (σ 3) (σ 1 1) (σ 6 v) (σ 7 v)) ow ch sd).2.2.2.2 = (akA (σ 2) (σ 3) (σ 1 1) (σ 6 v) (σ 7 v)).2.2.2.2 + 1 := fun _ _ _ => rfl
  refine q_aload_n (n := 1) dX7_waysWith_0 rfl rfl ?_
  refine q_getR (n := 4) dX7_waysWith_1 rfl fX7_12 xi0 rfl ?_
  refine q_getR (n := 7) dX7_waysWith_4 rfl fX7_144 xi1 rfl ?_
  refine q_iload_n (n := 8) dX7_waysWith_7 rfl rfl ?_
  refine q_ialoadF (σ 6) (n := 9) dX7_waysWith_8 rfl xi6 ⟨by omega, by omega⟩ rfl ?_
  refine q_iconst (n := 10) dX7_waysWith_9 rfl (k := ?_)
  refine q_icmp_ne (n := 13) (t := 23) dX7_waysWith_10 rfl (by decide) (fun h10 => ?_) (fun h10 => ?_)
  · skip
    refine q_iload_n (n := 24) dX7_waysWith_23 rfl rfl ?_
    refine q_iconst (n := 25) dX7_waysWith_24 rfl (k := ?_)
    refine q_icmp_ne (n := 28) (t := 38) dX7_waysWith_25 rfl (by decide) (fun h25 => ?_) (fun h25 => ?_)
    · skip
      refine q_aload_n (n := 39) dX7_waysWith_38 rfl rfl ?_
      refine q_getR (n := 42) dX7_waysWith_39 rfl fX7_55 xi0 rfl ?_
      refine q_iconst (n := 43) dX7_waysWith_42 rfl (k := ?_)
      refine q_v1W (n := 46) dX7_waysWith_43 rfl (zC_search _ _ (ak2 (akA (σ 2) (σ 3) (σ 1 1) (σ 6 v) (σ 7 v)) (σ 6 v) w) L (by unfold ak2; first | (rw [if_pos h25, if_pos h10]; exact hr3) | (rw [if_pos h25, if_neg h10]; exact hr3) | (rw [if_neg h25, if_pos h10]; exact hr2) | (rw [if_neg h25, if_neg h10]; exact hr)) (hI.aks2 hv w)) (vX2_search _) lX7_380 (Nat.ble_eq_true_of_le (by show (ak2 (akA (σ 2) (σ 3) (σ 1 1) (σ 6 v) (σ 7 v)) (σ 6 v) w).2.2.2.2.toNat + 3 + 1 ≤ 11; omega)) rfl xi84 rfl (fun σ3 h3 => ?_)
      obtain ⟨s9, rfl, hw1, hw2, hw3, hw4⟩ := h3
      refine q_aload_n (n := 47) dX7_waysWith_46 rfl rfl ?_
      refine q_getR (n := 50) dX7_waysWith_47 rfl fX7_55 xi0 rfl ?_
      refine q_getIE ((wF L (ak2 (akA (σ 2) (σ 3) (σ 1 1) (σ 6 v) (σ 7 v)) (σ 6 v) w)).2.2) (kI := 8) (n := 53) (by decide) dX7_waysWith_50 rfl fX7_383 xi84 rfl rfl hw3 ?_
      refine q_iret dX7_waysWith_53 rfl (fun _ => rfl) ?_
      exact ⟨_, rfl, rfl, s9, rfl, hw1, hw2, hw4⟩
    · skip
      refine q_aload_n (n := 29) dX7_waysWith_28 rfl rfl ?_
      refine q_getR (n := 32) dX7_waysWith_29 rfl fX7_55 xi0 rfl ?_
      refine q_iconst (n := 33) dX7_waysWith_32 rfl (k := ?_)
      refine q_iconst (n := 34) dX7_waysWith_33 rfl (k := ?_)
      refine q_iconst (n := 35) dX7_waysWith_34 rfl (k := ?_)
      refine q_v3W (n := 38) dX7_waysWith_35 rfl (zC_ask _ _ _ L _ _ _ (by first | exact hr2 | exact hr) ⟨by first | (rw [hpk]; omega) | omega, by first | (rw [hpk]; omega) | omega⟩) vX2_ask lX7_376 rfl rfl xi84 rfl (fun σ35 h35 => ?_)
      obtain ⟨s3, rfl, hr3, hro3⟩ := h35
      · skip
        refine q_aload_n (n := 39) dX7_waysWith_38 rfl rfl ?_
        refine q_getR (n := 42) dX7_waysWith_39 rfl fX7_55 xi0 rfl ?_
        refine q_iconst (n := 43) dX7_waysWith_42 rfl (k := ?_)
        refine q_v1W (n := 46) dX7_waysWith_43 rfl (zC_search _ _ (ak2 (akA (σ 2) (σ 3) (σ 1 1) (σ 6 v) (σ 7 v)) (σ 6 v) w) L (by unfold ak2; first | (rw [if_pos h25, if_pos h10]; exact hr3) | (rw [if_pos h25, if_neg h10]; exact hr3) | (rw [if_neg h25, if_pos h10]; exact hr2) | (rw [if_neg h25, if_neg h10]; exact hr)) (hI.aks2 hv w)) (vX2_search _) lX7_380 (Nat.ble_eq_true_of_le (by show (ak2 (akA (σ 2) (σ 3) (σ 1 1) (σ 6 v) (σ 7 v)) (σ 6 v) w).2.2.2.2.toNat + 3 + 1 ≤ 11; omega)) rfl xi84 rfl (fun σ3 h3 => ?_)
        obtain ⟨s9, rfl, hw1, hw2, hw3, hw4⟩ := h3
        refine q_aload_n (n := 47) dX7_waysWith_46 rfl rfl ?_
        refine q_getR (n := 50) dX7_waysWith_47 rfl fX7_55 xi0 rfl ?_
        refine q_getIE ((wF L (ak2 (akA (σ 2) (σ 3) (σ 1 1) (σ 6 v) (σ 7 v)) (σ 6 v) w)).2.2) (kI := 8) (n := 53) (by decide) dX7_waysWith_50 rfl fX7_383 xi84 rfl rfl hw3 ?_
        refine q_iret dX7_waysWith_53 rfl (fun _ => rfl) ?_
        exact ⟨_, rfl, rfl, s9, rfl, hw1, hw2, hw4⟩
  · have h10 : σ 6 v = -1 := h10
    have hc3 := hc.2.1 h10
    refine q_aload_n (n := 14) dX7_waysWith_13 rfl rfl ?_
    refine q_getR (n := 17) dX7_waysWith_14 rfl fX7_55 xi0 rfl ?_
    refine q_iconst (n := 18) dX7_waysWith_17 rfl (k := ?_)
    refine q_iconst (n := 19) dX7_waysWith_18 rfl (k := ?_)
    refine q_iconst (n := 20) dX7_waysWith_19 rfl (k := ?_)
    refine q_v3W (n := 23) dX7_waysWith_20 rfl (zC_ask _ _ (akA (σ 2) (σ 3) (σ 1 1) (σ 6 v) (σ 7 v)) L _ _ _ hr ⟨by omega, by omega⟩) vX2_ask lX7_376 rfl rfl xi84 rfl (fun σ20 h20 => ?_)
    obtain ⟨s2, rfl, hr2, hro⟩ := h20
    · skip
      refine q_iload_n (n := 24) dX7_waysWith_23 rfl rfl ?_
      refine q_iconst (n := 25) dX7_waysWith_24 rfl (k := ?_)
      refine q_icmp_ne (n := 28) (t := 38) dX7_waysWith_25 rfl (by decide) (fun h25 => ?_) (fun h25 => ?_)
      · skip
        refine q_aload_n (n := 39) dX7_waysWith_38 rfl rfl ?_
        refine q_getR (n := 42) dX7_waysWith_39 rfl fX7_55 xi0 rfl ?_
        refine q_iconst (n := 43) dX7_waysWith_42 rfl (k := ?_)
        refine q_v1W (n := 46) dX7_waysWith_43 rfl (zC_search _ _ (ak2 (akA (σ 2) (σ 3) (σ 1 1) (σ 6 v) (σ 7 v)) (σ 6 v) w) L (by unfold ak2; first | (rw [if_pos h25, if_pos h10]; exact hr3) | (rw [if_pos h25, if_neg h10]; exact hr3) | (rw [if_neg h25, if_pos h10]; exact hr2) | (rw [if_neg h25, if_neg h10]; exact hr)) (hI.aks2 hv w)) (vX2_search _) lX7_380 (Nat.ble_eq_true_of_le (by show (ak2 (akA (σ 2) (σ 3) (σ 1 1) (σ 6 v) (σ 7 v)) (σ 6 v) w).2.2.2.2.toNat + 3 + 1 ≤ 11; omega)) rfl xi84 rfl (fun σ3 h3 => ?_)
        obtain ⟨s9, rfl, hw1, hw2, hw3, hw4⟩ := h3
        refine q_aload_n (n := 47) dX7_waysWith_46 rfl rfl ?_
        refine q_getR (n := 50) dX7_waysWith_47 rfl fX7_55 xi0 rfl ?_
        refine q_getIE ((wF L (ak2 (akA (σ 2) (σ 3) (σ 1 1) (σ 6 v) (σ 7 v)) (σ 6 v) w)).2.2) (kI := 8) (n := 53) (by decide) dX7_waysWith_50 rfl fX7_383 xi84 rfl rfl hw3 ?_
        refine q_iret dX7_waysWith_53 rfl (fun _ => rfl) ?_
        exact ⟨_, rfl, rfl, s9, rfl, hw1, hw2, hw4⟩
      · skip
        refine q_aload_n (n := 29) dX7_waysWith_28 rfl rfl ?_
        refine q_getR (n := 32) dX7_waysWith_29 rfl fX7_55 xi0 rfl ?_
        refine q_iconst (n := 33) dX7_waysWith_32 rfl (k := ?_)
        refine q_iconst (n := 34) dX7_waysWith_33 rfl (k := ?_)
        refine q_iconst (n := 35) dX7_waysWith_34 rfl (k := ?_)
        refine q_v3W (n := 38) dX7_waysWith_35 rfl (zC_ask _ _ _ L _ _ _ (by first | exact hr2 | exact hr) ⟨by first | (rw [hpk]; omega) | omega, by first | (rw [hpk]; omega) | omega⟩) vX2_ask lX7_376 rfl rfl xi84 rfl (fun σ35 h35 => ?_)
        obtain ⟨s3, rfl, hr3, hro3⟩ := h35
        · skip
          refine q_aload_n (n := 39) dX7_waysWith_38 rfl rfl ?_
          refine q_getR (n := 42) dX7_waysWith_39 rfl fX7_55 xi0 rfl ?_
          refine q_iconst (n := 43) dX7_waysWith_42 rfl (k := ?_)
          refine q_v1W (n := 46) dX7_waysWith_43 rfl (zC_search _ _ (ak2 (akA (σ 2) (σ 3) (σ 1 1) (σ 6 v) (σ 7 v)) (σ 6 v) w) L (by unfold ak2; first | (rw [if_pos h25, if_pos h10]; exact hr3) | (rw [if_pos h25, if_neg h10]; exact hr3) | (rw [if_neg h25, if_pos h10]; exact hr2) | (rw [if_neg h25, if_neg h10]; exact hr)) (hI.aks2 hv w)) (vX2_search _) lX7_380 (Nat.ble_eq_true_of_le (by show (ak2 (akA (σ 2) (σ 3) (σ 1 1) (σ 6 v) (σ 7 v)) (σ 6 v) w).2.2.2.2.toNat + 3 + 1 ≤ 11; omega)) rfl xi84 rfl (fun σ3 h3 => ?_)
          obtain ⟨s9, rfl, hw1, hw2, hw3, hw4⟩ := h3
          refine q_aload_n (n := 47) dX7_waysWith_46 rfl rfl ?_
          refine q_getR (n := 50) dX7_waysWith_47 rfl fX7_55 xi0 rfl ?_
          refine q_getIE ((wF L (ak2 (akA (σ 2) (σ 3) (σ 1 1) (σ 6 v) (σ 7 v)) (σ 6 v) w)).2.2) (kI := 8) (n := 53) (by decide) dX7_waysWith_50 rfl fX7_383 xi84 rfl rfl hw3 ?_
          refine q_iret dX7_waysWith_53 rfl (fun _ => rfl) ?_
          exact ⟨_, rfl, rfl, s9, rfl, hw1, hw2, hw4⟩
