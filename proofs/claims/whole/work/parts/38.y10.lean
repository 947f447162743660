theorem zO_strengthen (x : Int) (σ s : q_S) : q_Ct mX3_strengthen shX [.inr (.inr 1), .inl x] (ov σ s) (fun r σ' => r = some (.inl (oF x σ).1) ∧ σ' = ov (oF x σ).2 s) := by
  refine (zX3_strengthen x (ov σ s)).imp ?_
  unfold oF
  rintro r σ' ⟨v, rfl, ⟨h, rfl, rfl⟩ | ⟨h, rfl, rfl⟩⟩
  · rw [if_pos h]
    exact ⟨rfl, ov_upn rfl⟩
  · rw [if_neg h]
    exact ⟨rfl, rfl⟩
theorem zO_addTrack (ax ay bx by' cx cy : Int) (σ s : q_S) (h : 0 ≤ σ 1 1 ∧ σ 1 1 ≤ 8) : q_Ct mX3_addTrack shX [.inr (.inr 1), .inl ax, .inl ay, .inl bx, .inl by', .inl cx, .inl cy] (ov σ s) (fun r σ' => r = some (.inl (oT ax ay bx by' cx cy σ).1) ∧ σ' = ov (oT ax ay bx by' cx cy σ).2 s) := by
  refine (zX3_addTrack ax ay bx by' cx cy (ov σ s) h).imp ?_
  unfold oT
  rintro r σ' ⟨v, rfl, ⟨h, rfl, rfl⟩ | ⟨h1, h2, rfl, rfl⟩ | ⟨h1, h2, h3, rfl, rfl⟩ | ⟨h1, h2, h3, rfl, rfl⟩⟩
  · rw [if_pos h]
    exact ⟨rfl, rfl⟩
  · rw [if_neg (fun z => z h1), if_pos h2]
    exact ⟨rfl, rfl⟩
  · have h3 : σ 1 1 = 8 := h3
    rw [if_neg (fun z => z h1), if_neg h2, if_pos h3]
    exact ⟨rfl, rfl⟩
  · have h3 : σ 1 1 < 8 := h3
    rw [if_neg (fun z => z h1), if_neg h2, if_neg (by omega)]
    refine ⟨rfl, ?_⟩
    rw [ov_upn rfl, ov_upn rfl, ov_upn rfl, ov_upn rfl, ov_upn rfl, ov_upn rfl, ov_upn rfl, ov_upn rfl]
    rfl
theorem zO_removeVertex (σ s : q_S) (h : 0 ≤ σ 1 2 ∧ σ 1 2 ≤ 4) : q_Ct mX3_removeVertex shX [.inr (.inr 1)] (ov σ s) (fun r σ' => r = some (.inl (oD σ).1) ∧ σ' = ov (oD σ).2 s) := by
  refine (zX3_removeVertex (ov σ s) h).imp ?_
  unfold oD
  rintro r σ' ⟨v, rfl, ⟨h, rfl, rfl⟩ | ⟨h, rfl, rfl⟩⟩
  · have h : σ 1 2 = 0 := h
    rw [if_pos h]
    exact ⟨rfl, rfl⟩
  · have h : ¬ σ 1 2 = 0 := h
    rw [if_neg h]
    exact ⟨rfl, ov_upn rfl⟩
theorem zO_removeTrack (σ s : q_S) (h : 0 ≤ σ 1 1 ∧ σ 1 1 ≤ 8) (h4 : 0 ≤ σ 1 2 ∧ σ 1 2 ≤ 4) : q_Ct mX3_removeTrack shX [.inr (.inr 1)] (ov σ s) (fun r σ' => r = some (.inl (oW σ).1) ∧ σ' = ov (oW σ).2 s) := by
  refine (zX3_removeTrack (ov σ s) h h4).imp ?_
  unfold oW
  rintro r σ' ⟨v, rfl, ⟨h, rfl, rfl⟩ | ⟨h, rfl, rfl⟩⟩
  · have h : σ 1 1 = 0 ∨ rmv (σ 6) (σ 7) (σ 1 1 - 1) (σ 1 2).toNat 0 := h
    rw [← rmB_t] at h
    rw [if_pos h]
    exact ⟨rfl, rfl⟩
  · have h : ¬ (σ 1 1 = 0 ∨ rmv (σ 6) (σ 7) (σ 1 1 - 1) (σ 1 2).toNat 0) := h
    rw [← rmB_t] at h
    rw [if_neg h]
    exact ⟨rfl, ov_upn rfl⟩
theorem zO_settle (a : Int) (σ s : q_S) (hn : 0 ≤ σ 8 1 ∧ σ 8 1 < 9) (hc : 0 ≤ σ 8 2 ∧ σ 8 2 ≤ 8) : q_Ct mX1_settle shX [.inr (.inr 8), .inl a] (ov σ s) (fun r σ' => r = some (.inl a) ∧ σ' = ov (fin (a, σ)) s) := by
  refine (zX1_settle a (ov σ s) hn hc).imp ?_
  unfold fin
  rintro r σ' ⟨v, rfl, ⟨h, rfl, rfl⟩ | ⟨h, rfl, rfl⟩⟩
  · rw [if_pos h, ov_upn rfl, ov_upn rfl]
    exact ⟨rfl, rfl⟩
  · rw [if_neg (by omega)]
    exact ⟨rfl, rfl⟩
/-- a copy of a picture within the base -/
theorem pc_ov {σ s σ' : q_S} {q p : Int} (hq : 1 ≤ q ∧ q + 6 < 80) (hp : 1 ≤ p ∧ p + 6 < 80) (h : pcopied (ov σ s) σ' q p) : ∃ σ1, σ' = ov σ1 s ∧ pcopied σ σ1 q p := by
  have hs : ∀ c x : Int, 1 ≤ c → c < 80 → scX c x = false := by
    intro c x h1 h2
    unfold scX
    have a1 : decide (81 ≤ c) = false := decide_eq_false (by omega)
    have a2 : decide (96 ≤ c) = false := decide_eq_false (by omega)
    have a3 : decide (c = 91) = false := decide_eq_false (by omega)
    have a4 : decide (c = 93) = false := decide_eq_false (by omega)
    rw [a1, a2, a3, a4]
    rfl
  obtain ⟨h1, h2, h3, h4, h5⟩ := h
  refine ⟨fun c x => cond (scX c x) (σ c x) (σ' c x), ?_, ?_, ?_, ?_, ?_, ?_⟩
  · funext c x
    unfold ov
    cases e : scX c x with
    | true =>
      have hc : ¬ (p ≤ c ∧ c ≤ p + 6) := by
        intro z
        rw [hs c x (by omega) (by omega)] at e
        cases e
      rw [h5 c x hc]
      simp [ov, e]
    | false => simp only [cond_false, e]
  · intro k h0 h3
    have := h1 k h0 h3
    simp only [hs p k (by omega) (by omega), cond_false]
    rw [this, ov_n (hs q k (by omega) (by omega))]
  · intro j h0 h3
    have := h2 j h0 h3
    simp only [hs (p + 1) j (by omega) (by omega), cond_false]
    rw [this, ov_n (hs (q + 1) j (by omega) (by omega))]
  · intro j h0 h4
    have := h3 j h0 h4
    simp only [hs (p + 2) j (by omega) (by omega), cond_false]
    rw [this, ov_n (hs (q + 2) j (by omega) (by omega))]
  · intro a j a0 a1 h0 h6
    have := h4 a j a0 a1 h0 h6
    simp only [hs (p + a) j (by omega) (by omega), cond_false]
    rw [this, ov_n (hs (q + a) j (by omega) (by omega))]
  · intro c x hc
    have := h5 c x hc
    dsimp only
    cases e : scX c x with
    | true => rfl
    | false =>
      simp only [cond_false]
      rw [this, ov_n e]
theorem zO_draft (σ s : q_S) (hn : 0 ≤ σ 8 1 ∧ σ 8 1 < 9) : q_Ct mX1_draft shX [.inr (.inr 8), .inr (.inr 1)] (ov σ s) (fun r σ' => r = none ∧ (∃ σ1, σ' = ov σ1 s ∧ pcopied σ σ1 1 (10 + 7 * σ 8 1))) := by
  refine (zX1_draft (ov σ s) hn).imp ?_
  rintro r σ' ⟨hr, h⟩
  exact ⟨hr, pc_ov (by decide) (by omega) h⟩
theorem IX_dr {σ σ1 : q_S} {p : Int} (hI : IX σ) (hp : 10 ≤ p ∧ p + 6 < 80) (h : pcopied σ σ1 1 p) : IX σ1 ∧ (∀ c : Int, c < 10 → σ1 c = σ c) := by
  obtain ⟨_, _, _, _, h5⟩ := h
  have e : ∀ c : Int, c < 10 ∨ 80 ≤ c → σ1 c = σ c := fun c hc => by
    funext x
    exact h5 c x (by omega)
  obtain ⟨i1, i2, i3, i4, i5, i6, i7⟩ := hI
  refine ⟨?_, fun c hc => e c (Or.inl hc)⟩
  unfold IX
  rw [e 1 (by decide), e 2 (by decide), e 3 (by decide), e 4 (by decide), e 5 (by decide), e 6 (by decide), e 7 (by decide), e 8 (by decide), e 91 (by decide), e 92 (by decide), e 0 (by decide)]
  refine ⟨i1, i2, i3, i4, i5, i6, fun l h0 h3 => ?_⟩
  rw [e (104 + 2 * l) (by omega)]
  exact i7 l h0 h3
theorem oF_8 {x : Int} {σ : q_S} : (oF x σ).2 8 = σ 8 := by unfold oF; split <;> rfl
theorem oT_8 {ax ay bx by' cx cy : Int} {σ : q_S} : (oT ax ay bx by' cx cy σ).2 8 = σ 8 := by unfold oT newT; repeat (first | split | rfl)
theorem oK_8 {t k : Int} {σ : q_S} : (oK t k σ).2 8 = σ 8 := by unfold oK; repeat (first | split | rfl)
theorem oV_8 {x y a b : Int} {σ : q_S} : (oV x y a b σ).2 8 = σ 8 := by unfold oV newV; repeat (first | split | rfl)
theorem oD_8 {σ : q_S} : (oD σ).2 8 = σ 8 := by unfold oD; split <;> rfl
theorem oW_8 {σ : q_S} : (oW σ).2 8 = σ 8 := by unfold oW; split <;> rfl
set_option maxRecDepth 100000 in
theorem zX7_tell (t k : Int) (σ s : q_S) (hI : IX σ) : q_Ct mX7_tell shX [.inr (.inr 0), .inl t, .inl k] (ov σ s) (fun r σ' => ∃ z, r = some z ∧ (z = .inl (oK t k σ).1 ∧ ∃ s', σ' = ov (oK t k σ).2 s' ∧ ∀ c : Int, c < 96 → s' c = s c)) := by
  refine q_ct 1 (by decide) rfl rfl ?_
  show q_WP mX7_tell shX 0 [some (.inr (.inr 0)), some (.inl t), some (.inl k), none] [] (ov σ s) _
  have hI0 := hI
  have hn := hI.1.2.1
  refine q_aload_n (n := 1) dX7_tell_0 rfl rfl ?_
  refine q_getR (n := 4) dX7_tell_1 rfl fX7_12 xi0 rfl ?_
  refine q_iload_n (n := 5) dX7_tell_4 rfl rfl ?_
  refine q_v1D (n := 8) dX7_tell_5 rfl (zO_hasTrack _ _ _) vX3_hasTrack lX7_112 rfl rfl xi1 rfl ?_
  refine q_if_eq (n := 11) (t := 23) dX7_tell_8 rfl (by decide) (fun h8 => ?_) (fun h8 => ?_)
  · have h8 := q_b0.mp h8
    refine q_iconst (n := 24) dX7_tell_23 rfl (k := ?_)
    refine q_iret dX7_tell_24 rfl (fun _ => rfl) ?_
    have hb : ¬ (0 ≤ t ∧ t < σ 1 1) ∨ ¬ (k = -1 ∨ 0 ≤ k ∧ k < 12) := by
      first
        | exact Or.inl h8
        | exact Or.inr (fun z => z.elim h13 h20)
    unfold oK
    rw [if_pos hb]
    exact ⟨_, rfl, rfl, s, rfl, fun _ _ => rfl⟩
  · have h8 := q_b1.mp h8
    have ht8 : 0 ≤ t ∧ t < 8 := by omega
    have hg := hI.pt h8
    refine q_iload_n (n := 12) dX7_tell_11 rfl rfl ?_
    refine q_iconst (n := 13) dX7_tell_12 rfl (k := ?_)
    refine q_icmp_eq (n := 16) (t := 25) dX7_tell_13 rfl (by decide) (fun h13 => ?_) (fun h13 => ?_)
    · skip
      refine q_iload_n (n := 26) dX7_tell_25 rfl rfl ?_
      refine q_iconst (n := 27) dX7_tell_26 rfl (k := ?_)
      refine q_icmp_eq (n := 30) (t := 49) dX7_tell_27 rfl (by decide) (fun h27 => ?_) (fun h27 => ?_)
      · skip
        refine q_aload_n (n := 50) dX7_tell_49 rfl rfl ?_
        refine q_getR (n := 53) dX7_tell_50 rfl fX7_12 xi0 rfl ?_
        refine q_getR (n := 56) dX7_tell_53 rfl fX7_123 xi1 rfl ?_
        refine q_iload_n (n := 57) dX7_tell_56 rfl rfl ?_
        refine q_ialoadF (σ 3) (n := 58) dX7_tell_57 rfl xi3 ⟨by omega, by omega⟩ rfl ?_
        refine q_istore_n (n := 59) dX7_tell_58 rfl (Nat.le_of_ble_eq_true rfl) (q_s1_s (q_s1_s (q_s1_1 rfl))) ?_
        refine q_aload_n (n := 60) dX7_tell_59 rfl rfl ?_
        refine q_getR (n := 63) dX7_tell_60 rfl fX7_12 xi0 rfl ?_
        refine q_getR (n := 66) dX7_tell_63 rfl fX7_123 xi1 rfl ?_
        refine q_iload_n (n := 67) dX7_tell_66 rfl rfl ?_
        refine q_iload_n (n := 68) dX7_tell_67 rfl rfl ?_
        refine q_iconst (n := 69) dX7_tell_68 rfl (k := ?_)
        refine q_icmp_ne (n := 72) (t := 77) dX7_tell_69 rfl (by decide) (fun h69 => ?_) (fun h69 => ?_)
        · skip
          refine q_iload_n (n := 78) dX7_tell_77 rfl rfl ?_
          refine q_iastore (n := 79) dX7_tell_78 rfl xi3 ⟨by omega, by omega⟩ ?_
          refine q_iload_n (n := 80) dX7_tell_79 rfl rfl ?_
          refine q_iret dX7_tell_80 rfl (fun _ => rfl) ?_
          first
            | exact absurd h27 h69
            | exact absurd h69 h27
            | (have hok : ¬ (¬ (0 ≤ t ∧ t < σ 1 1) ∨ ¬ (k = -1 ∨ 0 ≤ k ∧ k < 12)) := by omega
               have hok2 : ¬ (k ≠ -1 ∧ num k 0 ≠ sgn (lB (σ 2) (6 * t))) := by
                 intro z
                 first
                   | exact z.1 h27
                   | exact z.2 h43
               unfold oK
               rw [if_neg hok, if_neg hok2]
               first
                 | (rw [if_pos h69]; exact ⟨_, rfl, rfl, _, ov_upn rfl, by first | exact fun _ _ => rfl | exact fun c hc => cvl_of (by omega)⟩)
                 | (rw [if_neg h69]; exact ⟨_, rfl, rfl, _, ov_upn rfl, by first | exact fun _ _ => rfl | exact fun c hc => cvl_of (by omega)⟩))
        · skip
          refine q_bipush (n := 74) dX7_tell_72 rfl (k := ?_)
          refine q_go (t := 78) dX7_tell_74 (by decide) ?_
          refine q_iastore (n := 79) dX7_tell_78 rfl xi3 ⟨by omega, by omega⟩ ?_
          refine q_iload_n (n := 80) dX7_tell_79 rfl rfl ?_
          refine q_iret dX7_tell_80 rfl (fun _ => rfl) ?_
          first
            | exact absurd h27 h69
            | exact absurd h69 h27
            | (have hok : ¬ (¬ (0 ≤ t ∧ t < σ 1 1) ∨ ¬ (k = -1 ∨ 0 ≤ k ∧ k < 12)) := by omega
               have hok2 : ¬ (k ≠ -1 ∧ num k 0 ≠ sgn (lB (σ 2) (6 * t))) := by
                 intro z
                 first
                   | exact z.1 h27
                   | exact z.2 h43
               unfold oK
               rw [if_neg hok, if_neg hok2]
               first
                 | (rw [if_pos h69]; exact ⟨_, rfl, rfl, _, ov_upn rfl, by first | exact fun _ _ => rfl | exact fun c hc => cvl_of (by omega)⟩)
                 | (rw [if_neg h69]; exact ⟨_, rfl, rfl, _, ov_upn rfl, by first | exact fun _ _ => rfl | exact fun c hc => cvl_of (by omega)⟩))
      · have h27 : ¬ k = -1 := h27
        refine q_iload_n (n := 31) dX7_tell_30 rfl rfl ?_
        refine q_iconst (n := 32) dX7_tell_31 rfl (k := ?_)
        refine q_c2D (n := 35) dX7_tell_32 rfl (zX7_numberOf _ _ _ (by omega)) vX7_numberOf lX7_153 rfl rfl ?_
        refine q_aload_n (n := 36) dX7_tell_35 rfl rfl ?_
        refine q_iload_n (n := 37) dX7_tell_36 rfl rfl ?_
        refine q_v1D (n := 40) dX7_tell_37 rfl (zX7_curveOf σ _ t hI h8) vX7_curveOf lX7_116 rfl rfl xi0 rfl ?_
        refine q_v0D (n := 43) dX7_tell_40 rfl (zC_turn _ _ _ t ht8 laid_cvl) vX0_turn lX7_120 rfl rfl (curN t ht8) rfl ?_
        refine q_icmp_eq (n := 46) (t := 49) dX7_tell_43 rfl (by decide) (fun h43 => ?_) (fun h43 => ?_)
        · skip
          refine q_aload_n (n := 50) dX7_tell_49 rfl rfl ?_
          refine q_getR (n := 53) dX7_tell_50 rfl fX7_12 xi0 rfl ?_
          refine q_getR (n := 56) dX7_tell_53 rfl fX7_123 xi1 rfl ?_
          refine q_iload_n (n := 57) dX7_tell_56 rfl rfl ?_
          refine q_ialoadF (σ 3) (n := 58) dX7_tell_57 rfl xi3 ⟨by omega, by omega⟩ rfl ?_
          refine q_istore_n (n := 59) dX7_tell_58 rfl (Nat.le_of_ble_eq_true rfl) (q_s1_s (q_s1_s (q_s1_1 rfl))) ?_
          refine q_aload_n (n := 60) dX7_tell_59 rfl rfl ?_
          refine q_getR (n := 63) dX7_tell_60 rfl fX7_12 xi0 rfl ?_
          refine q_getR (n := 66) dX7_tell_63 rfl fX7_123 xi1 rfl ?_
          refine q_iload_n (n := 67) dX7_tell_66 rfl rfl ?_
          refine q_iload_n (n := 68) dX7_tell_67 rfl rfl ?_
          refine q_iconst (n := 69) dX7_tell_68 rfl (k := ?_)
          refine q_icmp_ne (n := 72) (t := 77) dX7_tell_69 rfl (by decide) (fun h69 => ?_) (fun h69 => ?_)
          · skip
            refine q_iload_n (n := 78) dX7_tell_77 rfl rfl ?_
            refine q_iastore (n := 79) dX7_tell_78 rfl xi3 ⟨by omega, by omega⟩ ?_
            refine q_iload_n (n := 80) dX7_tell_79 rfl rfl ?_
            refine q_iret dX7_tell_80 rfl (fun _ => rfl) ?_
            first
              | exact absurd h27 h69
              | exact absurd h69 h27
              | (have hok : ¬ (¬ (0 ≤ t ∧ t < σ 1 1) ∨ ¬ (k = -1 ∨ 0 ≤ k ∧ k < 12)) := by omega
                 have hok2 : ¬ (k ≠ -1 ∧ num k 0 ≠ sgn (lB (σ 2) (6 * t))) := by
                   intro z
                   first
                     | exact z.1 h27
                     | exact z.2 h43
                 unfold oK
                 rw [if_neg hok, if_neg hok2]
                 first
                   | (rw [if_pos h69]; exact ⟨_, rfl, rfl, _, ov_upn rfl, by first | exact fun _ _ => rfl | exact fun c hc => cvl_of (by omega)⟩)
                   | (rw [if_neg h69]; exact ⟨_, rfl, rfl, _, ov_upn rfl, by first | exact fun _ _ => rfl | exact fun c hc => cvl_of (by omega)⟩))
          · skip
            refine q_bipush (n := 74) dX7_tell_72 rfl (k := ?_)
            refine q_go (t := 78) dX7_tell_74 (by decide) ?_
            refine q_iastore (n := 79) dX7_tell_78 rfl xi3 ⟨by omega, by omega⟩ ?_
            refine q_iload_n (n := 80) dX7_tell_79 rfl rfl ?_
            refine q_iret dX7_tell_80 rfl (fun _ => rfl) ?_
            first
              | exact absurd h27 h69
              | exact absurd h69 h27
              | (have hok : ¬ (¬ (0 ≤ t ∧ t < σ 1 1) ∨ ¬ (k = -1 ∨ 0 ≤ k ∧ k < 12)) := by omega
                 have hok2 : ¬ (k ≠ -1 ∧ num k 0 ≠ sgn (lB (σ 2) (6 * t))) := by
                   intro z
                   first
                     | exact z.1 h27
                     | exact z.2 h43
                 unfold oK
                 rw [if_neg hok, if_neg hok2]
                 first
                   | (rw [if_pos h69]; exact ⟨_, rfl, rfl, _, ov_upn rfl, by first | exact fun _ _ => rfl | exact fun c hc => cvl_of (by omega)⟩)
                   | (rw [if_neg h69]; exact ⟨_, rfl, rfl, _, ov_upn rfl, by first | exact fun _ _ => rfl | exact fun c hc => cvl_of (by omega)⟩))
        · skip
          refine q_bipush (n := 48) dX7_tell_46 rfl (k := ?_)
          refine q_iret dX7_tell_48 rfl (fun _ => rfl) ?_
          have hok : ¬ (¬ (0 ≤ t ∧ t < σ 1 1) ∨ ¬ (k = -1 ∨ 0 ≤ k ∧ k < 12)) := by omega
          unfold oK
          rw [if_neg hok, if_pos ⟨h27, h43⟩]
          exact ⟨_, rfl, rfl, _, rfl, fun c hc => cvl_of (by omega)⟩
    · skip
      refine q_iload_n (n := 17) dX7_tell_16 rfl rfl ?_
      refine q_c1D (n := 20) dX7_tell_17 rfl (zX7_isKind _ _) vX7_isKind lX7_150 rfl rfl ?_
      refine q_if_ne (n := 23) (t := 25) dX7_tell_20 rfl (by decide) (fun h20 => ?_) (fun h20 => ?_)
      · have h20 := q_b1.mp h20
        refine q_iload_n (n := 26) dX7_tell_25 rfl rfl ?_
        refine q_iconst (n := 27) dX7_tell_26 rfl (k := ?_)
        refine q_icmp_eq (n := 30) (t := 49) dX7_tell_27 rfl (by decide) (fun h27 => ?_) (fun h27 => ?_)
        · skip
          refine q_aload_n (n := 50) dX7_tell_49 rfl rfl ?_
          refine q_getR (n := 53) dX7_tell_50 rfl fX7_12 xi0 rfl ?_
          refine q_getR (n := 56) dX7_tell_53 rfl fX7_123 xi1 rfl ?_
          refine q_iload_n (n := 57) dX7_tell_56 rfl rfl ?_
          refine q_ialoadF (σ 3) (n := 58) dX7_tell_57 rfl xi3 ⟨by omega, by omega⟩ rfl ?_
          refine q_istore_n (n := 59) dX7_tell_58 rfl (Nat.le_of_ble_eq_true rfl) (q_s1_s (q_s1_s (q_s1_1 rfl))) ?_
          refine q_aload_n (n := 60) dX7_tell_59 rfl rfl ?_
          refine q_getR (n := 63) dX7_tell_60 rfl fX7_12 xi0 rfl ?_
          refine q_getR (n := 66) dX7_tell_63 rfl fX7_123 xi1 rfl ?_
          refine q_iload_n (n := 67) dX7_tell_66 rfl rfl ?_
          refine q_iload_n (n := 68) dX7_tell_67 rfl rfl ?_
          refine q_iconst (n := 69) dX7_tell_68 rfl (k := ?_)
          refine q_icmp_ne (n := 72) (t := 77) dX7_tell_69 rfl (by decide) (fun h69 => ?_) (fun h69 => ?_)
          · skip
            refine q_iload_n (n := 78) dX7_tell_77 rfl rfl ?_
            refine q_iastore (n := 79) dX7_tell_78 rfl xi3 ⟨by omega, by omega⟩ ?_
            refine q_iload_n (n := 80) dX7_tell_79 rfl rfl ?_
            refine q_iret dX7_tell_80 rfl (fun _ => rfl) ?_
            first
              | exact absurd h27 h69
              | exact absurd h69 h27
              | (have hok : ¬ (¬ (0 ≤ t ∧ t < σ 1 1) ∨ ¬ (k = -1 ∨ 0 ≤ k ∧ k < 12)) := by omega
                 have hok2 : ¬ (k ≠ -1 ∧ num k 0 ≠ sgn (lB (σ 2) (6 * t))) := by
                   intro z
                   first
                     | exact z.1 h27
                     | exact z.2 h43
                 unfold oK
                 rw [if_neg hok, if_neg hok2]
                 first
                   | (rw [if_pos h69]; exact ⟨_, rfl, rfl, _, ov_upn rfl, by first | exact fun _ _ => rfl | exact fun c hc => cvl_of (by omega)⟩)
                   | (rw [if_neg h69]; exact ⟨_, rfl, rfl, _, ov_upn rfl, by first | exact fun _ _ => rfl | exact fun c hc => cvl_of (by omega)⟩))
          · skip
            refine q_bipush (n := 74) dX7_tell_72 rfl (k := ?_)
            refine q_go (t := 78) dX7_tell_74 (by decide) ?_
            refine q_iastore (n := 79) dX7_tell_78 rfl xi3 ⟨by omega, by omega⟩ ?_
            refine q_iload_n (n := 80) dX7_tell_79 rfl rfl ?_
            refine q_iret dX7_tell_80 rfl (fun _ => rfl) ?_
            first
              | exact absurd h27 h69
              | exact absurd h69 h27
              | (have hok : ¬ (¬ (0 ≤ t ∧ t < σ 1 1) ∨ ¬ (k = -1 ∨ 0 ≤ k ∧ k < 12)) := by omega
                 have hok2 : ¬ (k ≠ -1 ∧ num k 0 ≠ sgn (lB (σ 2) (6 * t))) := by
                   intro z
                   first
                     | exact z.1 h27
                     | exact z.2 h43
                 unfold oK
                 rw [if_neg hok, if_neg hok2]
                 first
                   | (rw [if_pos h69]; exact ⟨_, rfl, rfl, _, ov_upn rfl, by first | exact fun _ _ => rfl | exact fun c hc => cvl_of (by omega)⟩)
                   | (rw [if_neg h69]; exact ⟨_, rfl, rfl, _, ov_upn rfl, by first | exact fun _ _ => rfl | exact fun c hc => cvl_of (by omega)⟩))
        · have h27 : ¬ k = -1 := h27
          refine q_iload_n (n := 31) dX7_tell_30 rfl rfl ?_
          refine q_iconst (n := 32) dX7_tell_31 rfl (k := ?_)
          refine q_c2D (n := 35) dX7_tell_32 rfl (zX7_numberOf _ _ _ (by omega)) vX7_numberOf lX7_153 rfl rfl ?_
          refine q_aload_n (n := 36) dX7_tell_35 rfl rfl ?_
          refine q_iload_n (n := 37) dX7_tell_36 rfl rfl ?_
          refine q_v1D (n := 40) dX7_tell_37 rfl (zX7_curveOf σ _ t hI h8) vX7_curveOf lX7_116 rfl rfl xi0 rfl ?_
          refine q_v0D (n := 43) dX7_tell_40 rfl (zC_turn _ _ _ t ht8 laid_cvl) vX0_turn lX7_120 rfl rfl (curN t ht8) rfl ?_
          refine q_icmp_eq (n := 46) (t := 49) dX7_tell_43 rfl (by decide) (fun h43 => ?_) (fun h43 => ?_)
          · skip
            refine q_aload_n (n := 50) dX7_tell_49 rfl rfl ?_
            refine q_getR (n := 53) dX7_tell_50 rfl fX7_12 xi0 rfl ?_
            refine q_getR (n := 56) dX7_tell_53 rfl fX7_123 xi1 rfl ?_
            refine q_iload_n (n := 57) dX7_tell_56 rfl rfl ?_
            refine q_ialoadF (σ 3) (n := 58) dX7_tell_57 rfl xi3 ⟨by omega, by omega⟩ rfl ?_
            refine q_istore_n (n := 59) dX7_tell_58 rfl (Nat.le_of_ble_eq_true rfl) (q_s1_s (q_s1_s (q_s1_1 rfl))) ?_
            refine q_aload_n (n := 60) dX7_tell_59 rfl rfl ?_
            refine q_getR (n := 63) dX7_tell_60 rfl fX7_12 xi0 rfl ?_
            refine q_getR (n := 66) dX7_tell_63 rfl fX7_123 xi1 rfl ?_
            refine q_iload_n (n := 67) dX7_tell_66 rfl rfl ?_
            refine q_iload_n (n := 68) dX7_tell_67 rfl rfl ?_
            refine q_iconst (n := 69) dX7_tell_68 rfl (k := ?_)
            refine q_icmp_ne (n := 72) (t := 77) dX7_tell_69 rfl (by decide) (fun h69 => ?_) (fun h69 => ?_)
            · skip
              refine q_iload_n (n := 78) dX7_tell_77 rfl rfl ?_
              refine q_iastore (n := 79) dX7_tell_78 rfl xi3 ⟨by omega, by omega⟩ ?_
              refine q_iload_n (n := 80) dX7_tell_79 rfl rfl ?_
              refine q_iret dX7_tell_80 rfl (fun _ => rfl) ?_
              first
                | exact absurd h27 h69
                | exact absurd h69 h27
                | (have hok : ¬ (¬ (0 ≤ t ∧ t < σ 1 1) ∨ ¬ (k = -1 ∨ 0 ≤ k ∧ k < 12)) := by omega
                   have hok2 : ¬ (k ≠ -1 ∧ num k 0 ≠ sgn (lB (σ 2) (6 * t))) := by
                     intro z
                     first
                       | exact z.1 h27
                       | exact z.2 h43
                   unfold oK
                   rw [if_neg hok, if_neg hok2]
                   first
                     | (rw [if_pos h69]; exact ⟨_, rfl, rfl, _, ov_upn rfl, by first | exact fun _ _ => rfl | exact fun c hc => cvl_of (by omega)⟩)
                     | (rw [if_neg h69]; exact ⟨_, rfl, rfl, _, ov_upn rfl, by first | exact fun _ _ => rfl | exact fun c hc => cvl_of (by omega)⟩))
            · skip
              refine q_bipush (n := 74) dX7_tell_72 rfl (k := ?_)
              refine q_go (t := 78) dX7_tell_74 (by decide) ?_
              refine q_iastore (n := 79) dX7_tell_78 rfl xi3 ⟨by omega, by omega⟩ ?_
              refine q_iload_n (n := 80) dX7_tell_79 rfl rfl ?_
              refine q_iret dX7_tell_80 rfl (fun _ => rfl) ?_
              first
                | exact absurd h27 h69
                | exact absurd h69 h27
                | (have hok : ¬ (¬ (0 ≤ t ∧ t < σ 1 1) ∨ ¬ (k = -1 ∨ 0 ≤ k ∧ k < 12)) := by omega
                   have hok2 : ¬ (k ≠ -1 ∧ num k 0 ≠ sgn (lB (σ 2) (6 * t))) := by
                     intro z
                     first
                       | exact z.1 h27
                       | exact z.2 h43
                   unfold oK
                   rw [if_neg hok, if_neg hok2]
                   first
                     | (rw [if_pos h69]; exact ⟨_, rfl, rfl, _, ov_upn rfl, by first | exact fun _ _ => rfl | exact fun c hc => cvl_of (by omega)⟩)
                     | (rw [if_neg h69]; exact ⟨_, rfl, rfl, _, ov_upn rfl, by first | exact fun _ _ => rfl | exact fun c hc => cvl_of (by omega)⟩))
          · skip
            refine q_bipush (n := 48) dX7_tell_46 rfl (k := ?_)
            refine q_iret dX7_tell_48 rfl (fun _ => rfl) ?_
            have hok : ¬ (¬ (0 ≤ t ∧ t < σ 1 1) ∨ ¬ (k = -1 ∨ 0 ≤ k ∧ k < 12)) := by omega
            unfold oK
            rw [if_neg hok, if_pos ⟨h27, h43⟩]
            exact ⟨_, rfl, rfl, _, rfl, fun c hc => cvl_of (by omega)⟩
      · have h20 := q_b0.mp h20
        refine q_iconst (n := 24) dX7_tell_23 rfl (k := ?_)
        refine q_iret dX7_tell_24 rfl (fun _ => rfl) ?_
        have hb : ¬ (0 ≤ t ∧ t < σ 1 1) ∨ ¬ (k = -1 ∨ 0 ≤ k ∧ k < 12) := by
          first
            | exact Or.inl h8
            | exact Or.inr (fun z => z.elim h13 h20)
        unfold oK
        rw [if_pos hb]
        exact ⟨_, rfl, rfl, s, rfl, fun _ _ => rfl⟩
theorem zO_fits (x y : Int) (σ s : q_S) (hI : IX σ) (h : (-20 ≤ x ∧ x ≤ 20) ∧ -20 ≤ y ∧ y ≤ 20) : q_Ct mX7_fits shX [.inr (.inr 0), .inl x, .inl y] (ov σ s) (fun r σ' => ∃ z, r = some z ∧ (z = .inl (fitL (σ 2) x y (σ 1 1).toNat 0 0) ∧ ∃ s', σ' = ov σ s' ∧ ∀ c : Int, c < 96 → s' c = s c)) := by
  refine (zX7_fits x y σ s hI).imp ?_
  rintro r σ' ⟨h1, h2⟩
  refine ⟨_, h1, ?_, h2⟩
  unfold fFits
  rw [if_neg (fun z => z h)]
set_option maxRecDepth 100000 in
theorem zX7_tie (x y a b : Int) (σ s : q_S) (hI : IX σ) : q_Ct mX7_tie shX [.inr (.inr 0), .inl x, .inl y, .inl a, .inl b] (ov σ s) (fun r σ' => ∃ z, r = some z ∧ (z = .inl (oV x y a b σ).1 ∧ ∃ s', σ' = ov (oV x y a b σ).2 s' ∧ ∀ c : Int, c < 96 → s' c = s c)) := by
  refine q_ct 1 (by decide) rfl rfl ?_
  show q_WP mX7_tie shX 0 [some (.inr (.inr 0)), some (.inl x), some (.inl y), some (.inl a), some (.inl b), none] [] (ov σ s) _
  have hn := hI.1.2.1
  have hvv := hI.1.2.2.1
  refine q_iload_n (n := 1) dX7_tie_0 rfl rfl ?_
  refine q_iload_n (n := 2) dX7_tie_1 rfl rfl ?_
  refine q_c2D (n := 5) dX7_tie_2 rfl (zX7_isPoint _ _ _) vX7_isPoint lX7_202 rfl rfl ?_
  refine q_if_eq (n := 8) (t := 21) dX7_tie_5 rfl (by decide) (fun h5 => ?_) (fun h5 => ?_)
  · have h5 := q_b0.mp h5
    refine q_iconst (n := 22) dX7_tie_21 rfl (k := ?_)
    refine q_iret dX7_tie_22 rfl (fun _ => rfl) ?_
    have hb : ¬ ((-20 ≤ x ∧ x ≤ 20) ∧ -20 ≤ y ∧ y ≤ 20) ∨ ¬ tieB (σ 1 1) a b = true := by
      first
        | exact Or.inl h5
        | exact Or.inr (fun z => ht (tieB_t.mp z))
    unfold oV
    rw [if_pos hb]
    exact ⟨_, rfl, rfl, s, rfl, fun _ _ => rfl⟩
  · have h5 := q_b1.mp h5
    refine q_aload_n (n := 9) dX7_tie_8 rfl rfl ?_
    refine q_getR (n := 12) dX7_tie_9 rfl fX7_12 xi0 rfl ?_
    refine q_iload_n (n := 13) dX7_tie_12 rfl rfl ?_
    refine q_iload (n := 15) dX7_tie_13 rfl rfl ?_
    refine q_v2 (n := 18) dX7_tie_15 rfl (zX3_canTie a b (ov σ _) hn) vX3_canTie lX7_353 rfl rfl xi1 rfl (fun v15 σ15 h15 => ?_)
    rcases h15 with ⟨ht, rfl, rfl⟩ | ⟨ht, rfl, rfl⟩
    · skip
      refine q_if_ne (n := 21) (t := 23) dX7_tie_18 rfl (by decide) (fun h18 => ?_) (fun h18 => ?_)
      · skip
        have ht : tieok (σ 1 1) a b := ht
        have hon := tie_on (f := σ 2) (x := x) (y := y) hn ht
        have hok : ¬ (¬ ((-20 ≤ x ∧ x ≤ 20) ∧ -20 ≤ y ∧ y ≤ 20) ∨ ¬ tieB (σ 1 1) a b = true) := fun z => z.elim (fun z => z h5) (fun z => z (tieB_t.mpr ht))
        refine q_iload_n (n := 24) dX7_tie_23 rfl rfl ?_
        refine q_iconst (n := 25) dX7_tie_24 rfl (k := ?_)
        refine q_icmp_ne (n := 28) (t := 33) dX7_tie_25 rfl (by decide) (fun h25 => ?_) (fun h25 => ?_)
        · skip
          refine q_iload (n := 35) dX7_tie_33 rfl rfl ?_
          refine q_iconst (n := 36) dX7_tie_35 rfl (k := ?_)
          refine q_iload_n (n := 37) dX7_tie_36 rfl rfl ?_
          refine q_ishl (n := 38) dX7_tie_37 rfl ?_
          refine q_ior (n := 39) dX7_tie_38 rfl ?_
          refine q_istore (n := 41) dX7_tie_39 rfl (Nat.le_of_ble_eq_true rfl) (q_s1_s (q_s1_s (q_s1_s (q_s1_s (q_s1_1 rfl))))) ?_
          have hnd : needI a b = b ∨ True := Or.inr trivial
          first
            | (have e : needI a b = b := if_pos h25
               rw [e] at hon)
            | (have e : needI a b = q_or b (q_shl 1 a) := if_neg h25
               rw [e] at hon)
          refine q_aload_n (n := 42) dX7_tie_41 rfl rfl ?_
          refine q_iload_n (n := 43) dX7_tie_42 rfl rfl ?_
          refine q_iload_n (n := 44) dX7_tie_43 rfl rfl ?_
          refine q_v2 (n := 47) dX7_tie_44 rfl (zO_fits x y σ _ hI h5) vX7_fits lX7_356 rfl rfl xi0 rfl (fun v44 σ44 h44 => ?_)
          obtain ⟨rfl, s1, rfl, hfr⟩ := h44
          · skip
            refine q_iload (n := 49) dX7_tie_47 rfl rfl ?_
            refine q_iand (n := 50) dX7_tie_49 rfl ?_
            refine q_iload (n := 52) dX7_tie_50 rfl rfl ?_
            refine q_icmp_eq (n := 55) (t := 58) dX7_tie_52 rfl (by decide) (fun h52 => ?_) (fun h52 => ?_)
            · skip
              refine q_aload_n (n := 59) dX7_tie_58 rfl rfl ?_
              refine q_getR (n := 62) dX7_tie_59 rfl fX7_12 xi0 rfl ?_
              refine q_iload_n (n := 63) dX7_tie_62 rfl rfl ?_
              refine q_iload_n (n := 64) dX7_tie_63 rfl rfl ?_
              refine q_iload_n (n := 65) dX7_tie_64 rfl rfl ?_
              refine q_iload (n := 67) dX7_tie_65 rfl rfl ?_
              refine q_v4 (n := 70) dX7_tie_67 rfl (zX3_addVertex x y a b (ov σ _) hvv) vX3_addVertex lX7_359 rfl rfl xi1 rfl (fun v67 σ67 h67 => ?_)
              rcases h67 with ⟨hf, rfl, rfl⟩ | ⟨hf, rfl, rfl⟩
              · skip
                refine q_iret dX7_tie_70 rfl (fun _ => rfl) ?_
                unfold oV
                rw [if_neg hok, if_neg (fun z => z (hon.mp h52))]
                first
                  | (rw [if_pos (show σ 1 2 = 4 from hf)]
                     exact ⟨_, rfl, rfl, s1, rfl, hfr⟩)
                  | (rw [if_neg (show ¬ σ 1 2 = 4 from hf)]
                     refine ⟨_, rfl, rfl, s1, ?_, hfr⟩
                     rw [ov_upn rfl, ov_upn rfl, ov_upn rfl, ov_upn rfl, ov_upn rfl]
                     rfl)
              · skip
                refine q_iret dX7_tie_70 rfl (fun _ => rfl) ?_
                unfold oV
                rw [if_neg hok, if_neg (fun z => z (hon.mp h52))]
                first
                  | (rw [if_pos (show σ 1 2 = 4 from hf)]
                     exact ⟨_, rfl, rfl, s1, rfl, hfr⟩)
                  | (rw [if_neg (show ¬ σ 1 2 = 4 from hf)]
                     refine ⟨_, rfl, rfl, s1, ?_, hfr⟩
                     rw [ov_upn rfl, ov_upn rfl, ov_upn rfl, ov_upn rfl, ov_upn rfl]
                     rfl)
            · skip
              refine q_bipush (n := 57) dX7_tie_55 rfl (k := ?_)
              refine q_iret dX7_tie_57 rfl (fun _ => rfl) ?_
              unfold oV
              rw [if_neg hok, if_pos (fun z => h52 (hon.mpr z))]
              exact ⟨_, rfl, rfl, s1, rfl, hfr⟩
        · skip
          refine q_iload (n := 30) dX7_tie_28 rfl rfl ?_
          refine q_go (t := 39) dX7_tie_30 (by decide) ?_
          refine q_istore (n := 41) dX7_tie_39 rfl (Nat.le_of_ble_eq_true rfl) (q_s1_s (q_s1_s (q_s1_s (q_s1_s (q_s1_1 rfl))))) ?_
          have hnd : needI a b = b ∨ True := Or.inr trivial
          first
            | (have e : needI a b = b := if_pos h25
               rw [e] at hon)
            | (have e : needI a b = q_or b (q_shl 1 a) := if_neg h25
               rw [e] at hon)
          refine q_aload_n (n := 42) dX7_tie_41 rfl rfl ?_
          refine q_iload_n (n := 43) dX7_tie_42 rfl rfl ?_
          refine q_iload_n (n := 44) dX7_tie_43 rfl rfl ?_
          refine q_v2 (n := 47) dX7_tie_44 rfl (zO_fits x y σ _ hI h5) vX7_fits lX7_356 rfl rfl xi0 rfl (fun v44 σ44 h44 => ?_)
          obtain ⟨rfl, s1, rfl, hfr⟩ := h44
          · skip
            refine q_iload (n := 49) dX7_tie_47 rfl rfl ?_
            refine q_iand (n := 50) dX7_tie_49 rfl ?_
            refine q_iload (n := 52) dX7_tie_50 rfl rfl ?_
            refine q_icmp_eq (n := 55) (t := 58) dX7_tie_52 rfl (by decide) (fun h52 => ?_) (fun h52 => ?_)
            · skip
              refine q_aload_n (n := 59) dX7_tie_58 rfl rfl ?_
              refine q_getR (n := 62) dX7_tie_59 rfl fX7_12 xi0 rfl ?_
              refine q_iload_n (n := 63) dX7_tie_62 rfl rfl ?_
              refine q_iload_n (n := 64) dX7_tie_63 rfl rfl ?_
              refine q_iload_n (n := 65) dX7_tie_64 rfl rfl ?_
              refine q_iload (n := 67) dX7_tie_65 rfl rfl ?_
              refine q_v4 (n := 70) dX7_tie_67 rfl (zX3_addVertex x y a b (ov σ _) hvv) vX3_addVertex lX7_359 rfl rfl xi1 rfl (fun v67 σ67 h67 => ?_)
              rcases h67 with ⟨hf, rfl, rfl⟩ | ⟨hf, rfl, rfl⟩
              · skip
                refine q_iret dX7_tie_70 rfl (fun _ => rfl) ?_
                unfold oV
                rw [if_neg hok, if_neg (fun z => z (hon.mp h52))]
                first
                  | (rw [if_pos (show σ 1 2 = 4 from hf)]
                     exact ⟨_, rfl, rfl, s1, rfl, hfr⟩)
                  | (rw [if_neg (show ¬ σ 1 2 = 4 from hf)]
                     refine ⟨_, rfl, rfl, s1, ?_, hfr⟩
                     rw [ov_upn rfl, ov_upn rfl, ov_upn rfl, ov_upn rfl, ov_upn rfl]
                     rfl)
              · skip
                refine q_iret dX7_tie_70 rfl (fun _ => rfl) ?_
                unfold oV
                rw [if_neg hok, if_neg (fun z => z (hon.mp h52))]
                first
                  | (rw [if_pos (show σ 1 2 = 4 from hf)]
                     exact ⟨_, rfl, rfl, s1, rfl, hfr⟩)
                  | (rw [if_neg (show ¬ σ 1 2 = 4 from hf)]
                     refine ⟨_, rfl, rfl, s1, ?_, hfr⟩
                     rw [ov_upn rfl, ov_upn rfl, ov_upn rfl, ov_upn rfl, ov_upn rfl]
                     rfl)
            · skip
              refine q_bipush (n := 57) dX7_tie_55 rfl (k := ?_)
              refine q_iret dX7_tie_57 rfl (fun _ => rfl) ?_
              unfold oV
              rw [if_neg hok, if_pos (fun z => h52 (hon.mpr z))]
              exact ⟨_, rfl, rfl, s1, rfl, hfr⟩
      · exact absurd h18 (by decide)
    · skip
      refine q_if_ne (n := 21) (t := 23) dX7_tie_18 rfl (by decide) (fun h18 => ?_) (fun h18 => ?_)
      · exact absurd h18 (by decide)
      · skip
        refine q_iconst (n := 22) dX7_tie_21 rfl (k := ?_)
        refine q_iret dX7_tie_22 rfl (fun _ => rfl) ?_
        have hb : ¬ ((-20 ≤ x ∧ x ≤ 20) ∧ -20 ≤ y ∧ y ≤ 20) ∨ ¬ tieB (σ 1 1) a b = true := by
          first
            | exact Or.inl h5
            | exact Or.inr (fun z => ht (tieB_t.mp z))
        unfold oV
        rw [if_pos hb]
        exact ⟨_, rfl, rfl, s, rfl, fun _ _ => rfl⟩
set_option maxRecDepth 100000 in
theorem zX7_field (x : Int) (σ s : q_S) (hI : IX σ) : q_Ct mX7_field shX [.inr (.inr 0), .inl x] (ov σ s) (fun r σ' => ∃ σ1 s', pcopied σ σ1 1 (10 + 7 * σ 8 1) ∧ r = some (.inl (oF x σ1).1) ∧ σ' = ov (fin (oF x σ1)) s') := by
  refine q_ct 0 (by decide) rfl rfl ?_
  show q_WP mX7_field shX 0 [some (.inr (.inr 0)), some (.inl x)] [] (ov σ s) _
  refine q_aload_n (n := 1) dX7_field_0 rfl rfl ?_
  refine q_getR (n := 4) dX7_field_1 rfl fX7_21 xi0 rfl ?_
  refine q_aload_n (n := 5) dX7_field_4 rfl rfl ?_
  refine q_getR (n := 8) dX7_field_5 rfl fX7_12 xi0 rfl ?_
  refine q_v1W (n := 11) dX7_field_8 rfl (zO_draft _ _ hI.2.1) vX1_draft lX7_82 rfl rfl xi8 rfl (fun σ8 h8 => ?_)
  obtain ⟨σ1, rfl, hp⟩ := h8
  obtain ⟨hI1, he⟩ := IX_dr hI (by have := hI.2.1; omega) hp
  have hnx : 0 ≤ σ1 8 1 ∧ σ1 8 1 < 9 := hI1.2.1
  have hcg : 0 ≤ σ1 8 2 ∧ σ1 8 2 ≤ 8 := hI1.2.2.1
  have hn := hI1.1.2.1
  have hvv := hI1.1.2.2.1
  · skip
    refine q_aload_n (n := 12) dX7_field_11 rfl rfl ?_
    refine q_getR (n := 15) dX7_field_12 rfl fX7_21 xi0 rfl ?_
    refine q_aload_n (n := 16) dX7_field_15 rfl rfl ?_
    refine q_getR (n := 19) dX7_field_16 rfl fX7_12 xi0 rfl ?_
    refine q_iload_n (n := 20) dX7_field_19 rfl rfl ?_
    refine q_v1D (n := 23) dX7_field_20 rfl (zO_strengthen x σ1 _) vX3_strengthen lX7_86 rfl rfl xi1 rfl ?_
    refine q_v1D (n := 26) dX7_field_23 rfl (zO_settle _ (oF x σ1).2 _ (by rw [oF_8]; exact hnx) (by rw [oF_8]; exact hcg)) vX1_settle lX7_90 rfl rfl xi8 rfl ?_
    refine q_iret dX7_field_26 rfl (fun _ => rfl) ?_
    exact ⟨σ1, _, hp, rfl, rfl⟩
set_option maxRecDepth 100000 in
theorem zX7_track (ax ay bx by' cx cy : Int) (σ s : q_S) (hI : IX σ) : q_Ct mX7_track shX [.inr (.inr 0), .inl ax, .inl ay, .inl bx, .inl by', .inl cx, .inl cy] (ov σ s) (fun r σ' => ∃ σ1 s', pcopied σ σ1 1 (10 + 7 * σ 8 1) ∧ r = some (.inl (oT ax ay bx by' cx cy σ1).1) ∧ σ' = ov (fin (oT ax ay bx by' cx cy σ1)) s') := by
  refine q_ct 0 (by decide) rfl rfl ?_
  show q_WP mX7_track shX 0 [some (.inr (.inr 0)), some (.inl ax), some (.inl ay), some (.inl bx), some (.inl by'), some (.inl cx), some (.inl cy)] [] (ov σ s) _
  refine q_aload_n (n := 1) dX7_track_0 rfl rfl ?_
  refine q_getR (n := 4) dX7_track_1 rfl fX7_21 xi0 rfl ?_
  refine q_aload_n (n := 5) dX7_track_4 rfl rfl ?_
  refine q_getR (n := 8) dX7_track_5 rfl fX7_12 xi0 rfl ?_
  refine q_v1W (n := 11) dX7_track_8 rfl (zO_draft _ _ hI.2.1) vX1_draft lX7_82 rfl rfl xi8 rfl (fun σ8 h8 => ?_)
  obtain ⟨σ1, rfl, hp⟩ := h8
  obtain ⟨hI1, he⟩ := IX_dr hI (by have := hI.2.1; omega) hp
  have hnx : 0 ≤ σ1 8 1 ∧ σ1 8 1 < 9 := hI1.2.1
  have hcg : 0 ≤ σ1 8 2 ∧ σ1 8 2 ≤ 8 := hI1.2.2.1
  have hn := hI1.1.2.1
  have hvv := hI1.1.2.2.1
  · skip
    refine q_aload_n (n := 12) dX7_track_11 rfl rfl ?_
    refine q_getR (n := 15) dX7_track_12 rfl fX7_21 xi0 rfl ?_
    refine q_aload_n (n := 16) dX7_track_15 rfl rfl ?_
    refine q_getR (n := 19) dX7_track_16 rfl fX7_12 xi0 rfl ?_
    refine q_iload_n (n := 20) dX7_track_19 rfl rfl ?_
    refine q_iload_n (n := 21) dX7_track_20 rfl rfl ?_
    refine q_iload_n (n := 22) dX7_track_21 rfl rfl ?_
    refine q_iload (n := 24) dX7_track_22 rfl rfl ?_
    refine q_iload (n := 26) dX7_track_24 rfl rfl ?_
    refine q_iload (n := 28) dX7_track_26 rfl rfl ?_
    refine q_v6D (n := 31) dX7_track_28 rfl (zO_addTrack ax ay bx by' cx cy σ1 _ hn) vX3_addTrack lX7_93 rfl rfl xi1 rfl ?_
    refine q_v1D (n := 34) dX7_track_31 rfl (zO_settle _ (oT ax ay bx by' cx cy σ1).2 _ (by rw [oT_8]; exact hnx) (by rw [oT_8]; exact hcg)) vX1_settle lX7_90 rfl rfl xi8 rfl ?_
    refine q_iret dX7_track_34 rfl (fun _ => rfl) ?_
    exact ⟨σ1, _, hp, rfl, rfl⟩
set_option maxRecDepth 100000 in
theorem zX7_kind (t k : Int) (σ s : q_S) (hI : IX σ) : q_Ct mX7_kind shX [.inr (.inr 0), .inl t, .inl k] (ov σ s) (fun r σ' => ∃ σ1 s', pcopied σ σ1 1 (10 + 7 * σ 8 1) ∧ r = some (.inl (oK t k σ1).1) ∧ σ' = ov (fin (oK t k σ1)) s') := by
  refine q_ct 0 (by decide) rfl rfl ?_
  show q_WP mX7_kind shX 0 [some (.inr (.inr 0)), some (.inl t), some (.inl k)] [] (ov σ s) _
  refine q_aload_n (n := 1) dX7_kind_0 rfl rfl ?_
  refine q_getR (n := 4) dX7_kind_1 rfl fX7_21 xi0 rfl ?_
  refine q_aload_n (n := 5) dX7_kind_4 rfl rfl ?_
  refine q_getR (n := 8) dX7_kind_5 rfl fX7_12 xi0 rfl ?_
  refine q_v1W (n := 11) dX7_kind_8 rfl (zO_draft _ _ hI.2.1) vX1_draft lX7_82 rfl rfl xi8 rfl (fun σ8 h8 => ?_)
  obtain ⟨σ1, rfl, hp⟩ := h8
  obtain ⟨hI1, he⟩ := IX_dr hI (by have := hI.2.1; omega) hp
  have hnx : 0 ≤ σ1 8 1 ∧ σ1 8 1 < 9 := hI1.2.1
  have hcg : 0 ≤ σ1 8 2 ∧ σ1 8 2 ≤ 8 := hI1.2.2.1
  have hn := hI1.1.2.1
  have hvv := hI1.1.2.2.1
  · skip
    refine q_aload_n (n := 12) dX7_kind_11 rfl rfl ?_
    refine q_getR (n := 15) dX7_kind_12 rfl fX7_21 xi0 rfl ?_
    refine q_aload_n (n := 16) dX7_kind_15 rfl rfl ?_
    refine q_iload_n (n := 17) dX7_kind_16 rfl rfl ?_
    refine q_iload_n (n := 18) dX7_kind_17 rfl rfl ?_
    refine q_v2 (n := 21) dX7_kind_18 rfl (zX7_tell t k σ1 _ hI1) vX7_tell lX7_97 rfl rfl xi0 rfl (fun v18 σ18 h18 => ?_)
    obtain ⟨rfl, s2, rfl, _⟩ := h18
    · skip
      refine q_v1D (n := 24) dX7_kind_21 rfl (zO_settle _ (oK t k σ1).2 _ (by rw [oK_8]; exact hnx) (by rw [oK_8]; exact hcg)) vX1_settle lX7_90 rfl rfl xi8 rfl ?_
      refine q_iret dX7_kind_24 rfl (fun _ => rfl) ?_
      exact ⟨σ1, _, hp, rfl, rfl⟩
set_option maxRecDepth 100000 in
theorem zX7_vertex (x y a b : Int) (σ s : q_S) (hI : IX σ) : q_Ct mX7_vertex shX [.inr (.inr 0), .inl x, .inl y, .inl a, .inl b] (ov σ s) (fun r σ' => ∃ σ1 s', pcopied σ σ1 1 (10 + 7 * σ 8 1) ∧ r = some (.inl (oV x y a b σ1).1) ∧ σ' = ov (fin (oV x y a b σ1)) s') := by
  refine q_ct 0 (by decide) rfl rfl ?_
  show q_WP mX7_vertex shX 0 [some (.inr (.inr 0)), some (.inl x), some (.inl y), some (.inl a), some (.inl b)] [] (ov σ s) _
  refine q_aload_n (n := 1) dX7_vertex_0 rfl rfl ?_
  refine q_getR (n := 4) dX7_vertex_1 rfl fX7_21 xi0 rfl ?_
  refine q_aload_n (n := 5) dX7_vertex_4 rfl rfl ?_
  refine q_getR (n := 8) dX7_vertex_5 rfl fX7_12 xi0 rfl ?_
  refine q_v1W (n := 11) dX7_vertex_8 rfl (zO_draft _ _ hI.2.1) vX1_draft lX7_82 rfl rfl xi8 rfl (fun σ8 h8 => ?_)
  obtain ⟨σ1, rfl, hp⟩ := h8
  obtain ⟨hI1, he⟩ := IX_dr hI (by have := hI.2.1; omega) hp
  have hnx : 0 ≤ σ1 8 1 ∧ σ1 8 1 < 9 := hI1.2.1
  have hcg : 0 ≤ σ1 8 2 ∧ σ1 8 2 ≤ 8 := hI1.2.2.1
  have hn := hI1.1.2.1
  have hvv := hI1.1.2.2.1
  · skip
    refine q_aload_n (n := 12) dX7_vertex_11 rfl rfl ?_
    refine q_getR (n := 15) dX7_vertex_12 rfl fX7_21 xi0 rfl ?_
    refine q_aload_n (n := 16) dX7_vertex_15 rfl rfl ?_
    refine q_iload_n (n := 17) dX7_vertex_16 rfl rfl ?_
    refine q_iload_n (n := 18) dX7_vertex_17 rfl rfl ?_
    refine q_iload_n (n := 19) dX7_vertex_18 rfl rfl ?_
    refine q_iload (n := 21) dX7_vertex_19 rfl rfl ?_
    refine q_v4 (n := 24) dX7_vertex_21 rfl (zX7_tie x y a b σ1 _ hI1) vX7_tie lX7_101 rfl rfl xi0 rfl (fun v21 σ21 h21 => ?_)
    obtain ⟨rfl, s2, rfl, _⟩ := h21
    · skip
      refine q_v1D (n := 27) dX7_vertex_24 rfl (zO_settle _ (oV x y a b σ1).2 _ (by rw [oV_8]; exact hnx) (by rw [oV_8]; exact hcg)) vX1_settle lX7_90 rfl rfl xi8 rfl ?_
      refine q_iret dX7_vertex_27 rfl (fun _ => rfl) ?_
      exact ⟨σ1, _, hp, rfl, rfl⟩
set_option maxRecDepth 100000 in
theorem zX7_drop  (σ s : q_S) (hI : IX σ) : q_Ct mX7_drop shX [.inr (.inr 0)] (ov σ s) (fun r σ' => ∃ σ1 s', pcopied σ σ1 1 (10 + 7 * σ 8 1) ∧ r = some (.inl (oD σ1).1) ∧ σ' = ov (fin (oD σ1)) s') := by
  refine q_ct 0 (by decide) rfl rfl ?_
  show q_WP mX7_drop shX 0 [some (.inr (.inr 0))] [] (ov σ s) _
  refine q_aload_n (n := 1) dX7_drop_0 rfl rfl ?_
  refine q_getR (n := 4) dX7_drop_1 rfl fX7_21 xi0 rfl ?_
  refine q_aload_n (n := 5) dX7_drop_4 rfl rfl ?_
  refine q_getR (n := 8) dX7_drop_5 rfl fX7_12 xi0 rfl ?_
  refine q_v1W (n := 11) dX7_drop_8 rfl (zO_draft _ _ hI.2.1) vX1_draft lX7_82 rfl rfl xi8 rfl (fun σ8 h8 => ?_)
  obtain ⟨σ1, rfl, hp⟩ := h8
  obtain ⟨hI1, he⟩ := IX_dr hI (by have := hI.2.1; omega) hp
  have hnx : 0 ≤ σ1 8 1 ∧ σ1 8 1 < 9 := hI1.2.1
  have hcg : 0 ≤ σ1 8 2 ∧ σ1 8 2 ≤ 8 := hI1.2.2.1
  have hn := hI1.1.2.1
  have hvv := hI1.1.2.2.1
  · skip
    refine q_aload_n (n := 12) dX7_drop_11 rfl rfl ?_
    refine q_getR (n := 15) dX7_drop_12 rfl fX7_21 xi0 rfl ?_
    refine q_aload_n (n := 16) dX7_drop_15 rfl rfl ?_
    refine q_getR (n := 19) dX7_drop_16 rfl fX7_12 xi0 rfl ?_
    refine q_v0D (n := 22) dX7_drop_19 rfl (zO_removeVertex σ1 _ hvv) vX3_removeVertex lX7_105 rfl rfl xi1 rfl ?_
    refine q_v1D (n := 25) dX7_drop_22 rfl (zO_settle _ (oD σ1).2 _ (by rw [oD_8]; exact hnx) (by rw [oD_8]; exact hcg)) vX1_settle lX7_90 rfl rfl xi8 rfl ?_
    refine q_iret dX7_drop_25 rfl (fun _ => rfl) ?_
    exact ⟨σ1, _, hp, rfl, rfl⟩
set_option maxRecDepth 100000 in
theorem zX7_wipe  (σ s : q_S) (hI : IX σ) : q_Ct mX7_wipe shX [.inr (.inr 0)] (ov σ s) (fun r σ' => ∃ σ1 s', pcopied σ σ1 1 (10 + 7 * σ 8 1) ∧ r = some (.inl (oW σ1).1) ∧ σ' = ov (fin (oW σ1)) s') := by
  refine q_ct 0 (by decide) rfl rfl ?_
  show q_WP mX7_wipe shX 0 [some (.inr (.inr 0))] [] (ov σ s) _
  refine q_aload_n (n := 1) dX7_wipe_0 rfl rfl ?_
  refine q_getR (n := 4) dX7_wipe_1 rfl fX7_21 xi0 rfl ?_
  refine q_aload_n (n := 5) dX7_wipe_4 rfl rfl ?_
  refine q_getR (n := 8) dX7_wipe_5 rfl fX7_12 xi0 rfl ?_
  refine q_v1W (n := 11) dX7_wipe_8 rfl (zO_draft _ _ hI.2.1) vX1_draft lX7_82 rfl rfl xi8 rfl (fun σ8 h8 => ?_)
  obtain ⟨σ1, rfl, hp⟩ := h8
  obtain ⟨hI1, he⟩ := IX_dr hI (by have := hI.2.1; omega) hp
  have hnx : 0 ≤ σ1 8 1 ∧ σ1 8 1 < 9 := hI1.2.1
  have hcg : 0 ≤ σ1 8 2 ∧ σ1 8 2 ≤ 8 := hI1.2.2.1
  have hn := hI1.1.2.1
  have hvv := hI1.1.2.2.1
  · skip
    refine q_aload_n (n := 12) dX7_wipe_11 rfl rfl ?_
    refine q_getR (n := 15) dX7_wipe_12 rfl fX7_21 xi0 rfl ?_
    refine q_aload_n (n := 16) dX7_wipe_15 rfl rfl ?_
    refine q_getR (n := 19) dX7_wipe_16 rfl fX7_12 xi0 rfl ?_
    refine q_v0D (n := 22) dX7_wipe_19 rfl (zO_removeTrack σ1 _ hn hvv) vX3_removeTrack lX7_109 rfl rfl xi1 rfl ?_
    refine q_v1D (n := 25) dX7_wipe_22 rfl (zO_settle _ (oW σ1).2 _ (by rw [oW_8]; exact hnx) (by rw [oW_8]; exact hcg)) vX1_settle lX7_90 rfl rfl xi8 rfl ?_
    refine q_iret dX7_wipe_25 rfl (fun _ => rfl) ?_
    exact ⟨σ1, _, hp, rfl, rfl⟩
set_option maxRecDepth 100000 in
theorem zX7_undo (σ : q_S) (hI : IX σ) : q_Ct mX7_undo shX [.inr (.inr 0)] σ (fun r σ' => σ 8 2 = 0 ∧ r = some (.inl (-2)) ∧ σ' = σ ∨ σ 8 2 ≠ 0 ∧ r = some (.inl (σ 8 2 - 1)) ∧ pcopied (q_up (q_up σ 8 1 ((σ 8 1 + 9 - 1).tmod 9)) 8 2 (σ 8 2 - 1)) σ' (10 + 7 * ((σ 8 1 + 9 - 1).tmod 9)) 1) := by
  refine q_ct 0 (by decide) rfl rfl ?_
  show q_WP mX7_undo shX 0 [some (.inr (.inr 0))] [] σ _
  refine q_aload_n (n := 1) dX7_undo_0 rfl rfl ?_
  refine q_getR (n := 4) dX7_undo_1 rfl fX7_21 xi0 rfl ?_
  refine q_aload_n (n := 5) dX7_undo_4 rfl rfl ?_
  refine q_getR (n := 8) dX7_undo_5 rfl fX7_12 xi0 rfl ?_
  refine q_v1 (n := 11) dX7_undo_8 rfl (zX1_takeBack σ hI.2.1 hI.2.2.1) vX1_takeBack lX7_334 rfl rfl xi8 rfl (fun v8 σ8 h8 => ?_)
  rcases h8 with ⟨h0, rfl, rfl⟩ | ⟨h0, rfl, hp⟩
  · skip
    refine q_if_eq (n := 14) (t := 24) dX7_undo_11 rfl (by decide) (fun h11 => ?_) (fun h11 => ?_)
    · skip
      refine q_bipush (n := 26) dX7_undo_24 rfl (k := ?_)
      refine q_iret dX7_undo_26 rfl (fun _ => rfl) ?_
      first
        | exact Or.inl ⟨h0, rfl, rfl⟩
        | exact Or.inr ⟨h0, rfl, hp⟩
    · exact absurd h11 (by decide)
  · skip
    refine q_if_eq (n := 14) (t := 24) dX7_undo_11 rfl (by decide) (fun h11 => ?_) (fun h11 => ?_)
    · exact absurd h11 (by decide)
    · skip
      refine q_aload_n (n := 15) dX7_undo_14 rfl rfl ?_
      refine q_getR (n := 18) dX7_undo_15 rfl fX7_21 xi0 rfl ?_
      refine q_getIE (σ 8 2 - 1) (kI := 2) (n := 21) (by decide) dX7_undo_18 rfl fX7_168 xi8 rfl rfl (by rw [hp.2.2.2.2 8 2 (by omega), q_up_s]) ?_
      refine q_go (t := 26) dX7_undo_21 (by decide) ?_
      refine q_iret dX7_undo_26 rfl (fun _ => rfl) ?_
      first
        | exact Or.inl ⟨h0, rfl, rfl⟩
        | exact Or.inr ⟨h0, rfl, hp⟩
set_option maxRecDepth 100000 in
theorem zX7_image (σ : q_S) : q_Ct mX7_image shX [.inr (.inr 0)] σ (fun r σ' => r = some (.inl (σ 1 1)) ∧ ∃ σ1, pcopied σ σ1 1 73 ∧ σ' = q_up σ1 0 3 1) := by
  refine q_ct 0 (by decide) rfl rfl ?_
  show q_WP mX7_image shX 0 [some (.inr (.inr 0))] [] σ _
  refine q_aload_n (n := 1) dX7_image_0 rfl rfl ?_
  refine q_getR (n := 4) dX7_image_1 rfl fX7_25 xi0 rfl ?_
  refine q_aload_n (n := 5) dX7_image_4 rfl rfl ?_
  refine q_getR (n := 8) dX7_image_5 rfl fX7_12 xi0 rfl ?_
  refine q_v1W (n := 11) dX7_image_8 rfl (zX3_become _ _ _ pic73 pic1 (by decide)) vX3_become lX7_338 rfl rfl xi73 rfl (fun σ8 h8 => ?_)
  have hp := h8
  · skip
    refine q_aload_n (n := 12) dX7_image_11 rfl rfl ?_
    refine q_iconst (n := 13) dX7_image_12 rfl (k := ?_)
    refine q_putZ (kI := 3) (n := 16) dX7_image_13 rfl pX7_28 xi0 rfl rfl ⟨by decide, by decide⟩ ?_
    refine q_aload_n (n := 17) dX7_image_16 rfl rfl ?_
    refine q_getR (n := 20) dX7_image_17 rfl fX7_12 xi0 rfl ?_
    refine q_getIE (σ 1 1) (kI := 1) (n := 23) (by decide) dX7_image_20 rfl fX7_159 xi1 rfl rfl (by rw [q_up_n (by decide)]; exact hp.2.2.2.2 1 1 (by decide)) ?_
    refine q_iret dX7_image_23 rfl (fun _ => rfl) ?_
    exact ⟨rfl, _, hp, rfl⟩
set_option maxRecDepth 100000 in
theorem zX7_back (σ : q_S) : q_Ct mX7_back shX [.inr (.inr 0)] σ (fun r σ' => σ 0 3 = 0 ∧ r = some (.inl (-5)) ∧ σ' = σ ∨ σ 0 3 ≠ 0 ∧ r = some (.inl (σ 73 1)) ∧ ∃ σ1, pcopied σ σ1 73 1 ∧ σ' = q_up σ1 8 2 0) := by
  refine q_ct 0 (by decide) rfl rfl ?_
  show q_WP mX7_back shX 0 [some (.inr (.inr 0))] [] σ _
  refine q_aload_n (n := 1) dX7_back_0 rfl rfl ?_
  refine q_getI (kI := 3) (n := 4) (by decide) dX7_back_1 rfl fX7_28 xi0 rfl rfl ?_
  refine q_if_ne (n := 7) (t := 10) dX7_back_4 rfl (by decide) (fun h4 => ?_) (fun h4 => ?_)
  · skip
    refine q_aload_n (n := 11) dX7_back_10 rfl rfl ?_
    refine q_getR (n := 14) dX7_back_11 rfl fX7_12 xi0 rfl ?_
    refine q_aload_n (n := 15) dX7_back_14 rfl rfl ?_
    refine q_getR (n := 18) dX7_back_15 rfl fX7_25 xi0 rfl ?_
    refine q_v1W (n := 21) dX7_back_18 rfl (zX3_become _ _ _ pic1 pic73 (by decide)) vX3_become lX7_338 rfl rfl xi1 rfl (fun σ18 h18 => ?_)
    have hp := h18
    · skip
      refine q_aload_n (n := 22) dX7_back_21 rfl rfl ?_
      refine q_getR (n := 25) dX7_back_22 rfl fX7_21 xi0 rfl ?_
      refine q_v0U (n := 28) dX7_back_25 rfl (zX1_forget _) vX1_forget lX7_340 rfl rfl xi8 rfl ?_
      refine q_aload_n (n := 29) dX7_back_28 rfl rfl ?_
      refine q_getR (n := 32) dX7_back_29 rfl fX7_12 xi0 rfl ?_
      refine q_getIE (σ 73 1) (kI := 1) (n := 35) (by decide) dX7_back_32 rfl fX7_159 xi1 rfl rfl (by rw [q_up_n (by decide)]; exact hp.1 1 (by decide) (by decide)) ?_
      refine q_iret dX7_back_35 rfl (fun _ => rfl) ?_
      exact Or.inr ⟨h4, rfl, _, hp, rfl⟩
  · skip
    refine q_bipush (n := 9) dX7_back_7 rfl (k := ?_)
    refine q_iret dX7_back_9 rfl (fun _ => rfl) ?_
    exact Or.inl ⟨h4, rfl, rfl⟩
