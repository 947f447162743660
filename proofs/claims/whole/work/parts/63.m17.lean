/-- the ways' rows are kinds -/
theorem en_rng {ch : Int → Int} {P : (Int → Int) → Bool} {K : Int} : ∀ (n : Nat) (k : Int) (S : q_W3), (n : Int) + k = K → 0 ≤ k → 0 ≤ S.2.2 → (∀ j, 0 ≤ j → j < k → 0 ≤ S.1 j ∧ S.1 j < 12) → (S.2.2 ≠ 0 → ∀ j, 0 ≤ j → j < K → 0 ≤ S.2.1 j ∧ S.2.1 j < 12) → (∀ j, 0 ≤ j → j < k → 0 ≤ (enum ch P n k S).1 j ∧ (enum ch P n k S).1 j < 12) ∧ ((enum ch P n k S).2.2 ≠ 0 → ∀ j, 0 ≤ j → j < K → 0 ≤ (enum ch P n k S).2.1 j ∧ (enum ch P n k S).2.1 j < 12) ∧ 0 ≤ (enum ch P n k S).2.2 := by
  intro n
  induction n with
  | zero =>
    intro k S hk h0 hs hr hf
    rw [enum]
    unfold enL
    by_cases hp : P S.1 = true
    · rw [if_pos hp]
      refine ⟨hr, fun _ j j0 j1 => ?_, by show 0 ≤ S.2.2 + 1; omega⟩
      show 0 ≤ (if S.2.2 = 0 then S.1 else S.2.1) j ∧ (if S.2.2 = 0 then S.1 else S.2.1) j < 12
      by_cases e : S.2.2 = 0
      · rw [if_pos e]
        exact hr j j0 (by omega)
      · rw [if_neg e]
        exact hf e j j0 j1
    · rw [if_neg hp]
      exact ⟨hr, hf, hs⟩
  | succ n ih =>
    intro k S hk h0 hs hr hf
    rw [enum]
    have hg : ∀ (m : Nat) (i : Int) (S : q_W3), (m : Int) + i = 12 → 0 ≤ i → 0 ≤ S.2.2 → (∀ j, 0 ≤ j → j < k → 0 ≤ S.1 j ∧ S.1 j < 12) → (S.2.2 ≠ 0 → ∀ j, 0 ≤ j → j < K → 0 ≤ S.2.1 j ∧ S.2.1 j < 12) → (∀ j, 0 ≤ j → j < k → 0 ≤ (kfold (fun kd s => if num kd 0 = ch k then enum ch P n (k + 1) (ud s.1 k kd, s.2) else s) m i S).1 j ∧ (kfold (fun kd s => if num kd 0 = ch k then enum ch P n (k + 1) (ud s.1 k kd, s.2) else s) m i S).1 j < 12) ∧ ((kfold (fun kd s => if num kd 0 = ch k then enum ch P n (k + 1) (ud s.1 k kd, s.2) else s) m i S).2.2 ≠ 0 → ∀ j, 0 ≤ j → j < K → 0 ≤ (kfold (fun kd s => if num kd 0 = ch k then enum ch P n (k + 1) (ud s.1 k kd, s.2) else s) m i S).2.1 j ∧ (kfold (fun kd s => if num kd 0 = ch k then enum ch P n (k + 1) (ud s.1 k kd, s.2) else s) m i S).2.1 j < 12) ∧ 0 ≤ (kfold (fun kd s => if num kd 0 = ch k then enum ch P n (k + 1) (ud s.1 k kd, s.2) else s) m i S).2.2 := by
      intro m
      induction m with
      | zero => intro i S _ _ a b c; exact ⟨b, c, a⟩
      | succ m ihm =>
        intro i S hi i0 a b c
        rw [kfold]
        by_cases e : num i 0 = ch k
        · rw [if_pos e]
          obtain ⟨z1, z2, z3⟩ := ih (k + 1) (ud S.1 k i, S.2) (by omega) (by omega) a (fun j j0 j1 => by
            show 0 ≤ ud S.1 k i j ∧ ud S.1 k i j < 12
            unfold ud
            by_cases e : j = k
            · rw [if_pos e]
              omega
            · rw [if_neg e]
              exact b j j0 (by omega)) c
          exact ihm (i + 1) _ (by omega) (by omega) z3 (fun j j0 j1 => z1 j j0 (by omega)) z2
        · rw [if_neg e]
          exact ihm (i + 1) _ (by omega) (by omega) a b c
    exact hg 12 0 S (by decide) (by decide) hs hr hf
theorem wF_rng {L : Int} {A : q_A5} (hk : 0 ≤ A.2.2.2.2) (h : (wF L A).2.2 ≠ 0) : ∀ j, 0 ≤ j → j < A.2.2.2.2 → 0 ≤ (wF L A).2.1 j ∧ (wF L A).2.1 j < 12 :=
  (en_rng (ch := A.2.2.1) (P := nmP L A) (K := A.2.2.2.2) A.2.2.2.2.toNat 0 (fun _ => 0, fun _ => 0, 0) (by omega) (by decide) (by show (0 : Int) ≤ 0; decide) (fun j j0 j1 => by omega) (fun z => absurd rfl z)).2.1 h
theorem up_pE {τ τ' : q_S} {c k v : Int} (h : pE τ τ') : pE (q_up τ c k v) (q_up τ' c k v) := by
  have e : ∀ a j : Int, τ a j = τ' a j → q_up τ c k v a j = q_up τ' c k v a j := fun a j z => by
    unfold q_up
    by_cases y : a = c ∧ j = k
    · rw [if_pos y, if_pos y]
    · rw [if_neg y, if_neg y, z]
  exact ⟨fun j a b => e _ _ (h.1 j a b), fun j a b => e _ _ (h.2.1 j a b), fun j a b => e _ _ (h.2.2.1 j a b), fun c j a b p q => e _ _ (h.2.2.2 c j a b p q)⟩
def oC (v L w : Int) (τ : q_S) : Int × q_S := (fCalls (τ 1 1) (τ 1 2) (τ 2) (τ 3) (τ 6) (τ 7) v L w, if 0 ≤ fCalls (τ 1 1) (τ 1 2) (τ 2) (τ 3) (τ 6) (τ 7) v L w then clK (akA (τ 2) (τ 3) (τ 1 1) (τ 6 v) (τ 7 v)).2.1 (wF L (ak2 (akA (τ 2) (τ 3) (τ 1 1) (τ 6 v) (τ 7 v)) (τ 6 v) w)).2.1 (akA (τ 2) (τ 3) (τ 1 1) (τ 6 v) (τ 7 v)).2.2.2.2.toNat 0 τ else τ)
set_option maxRecDepth 100000 in
theorem lpX8_ca (σ s : q_S) (v L w K c : Int) (A : q_A5) (hA : okA (pM (σ 1) 3) (σ 1 1) (pM (σ 1) 6 v) w K A) (ha : askK s A (pM (σ 1) 6 v) w K) (Q : Option q_V → q_S → Prop) (σ1 : q_S) (hQ : Q (some (.inl c)) (ovM σ1 s)) : ∀ (n : Nat) (i : Int), (n : Int) + i = K → 0 ≤ i → A.2.2.2.2 ≤ i → q_WP mX8_calls shM 37 [some (.inr (.inr 0)), some (.inl v), some (.inl L), some (.inl w), some (.inl 0), some (.inl c), some (.inl i)] [] (ovM σ1 s) Q := by
  have hk5 := hA.2.2.2.2
  intro n
  induction n with
  | zero =>
    intro i hi h0 hk
    refine q_iload (n := 39) dX8_calls_37 rfl rfl ?_
    refine q_aload_n (n := 40) dX8_calls_39 rfl rfl ?_
    refine q_getIE (K) (kI := 23) (n := 43) (by decide) dX8_calls_40 rfl fX8_278 mi0 rfl rfl ha.1 ?_
    refine q_icmp_ge (n := 46) (t := 90) dX8_calls_43 rfl (by decide) (fun h43 => ?_) (fun h43 => ?_)
    · skip
      refine q_iload (n := 92) dX8_calls_90 rfl rfl ?_
      refine q_iret dX8_calls_92 rfl (fun _ => rfl) ?_
      exact hQ
    · exact absurd h43 (by omega)
  | succ n ih =>
    intro i hi h0 hk
    have hc := askK_at ha hA (i := i) ⟨h0, by omega⟩
    refine q_iload (n := 39) dX8_calls_37 rfl rfl ?_
    refine q_aload_n (n := 40) dX8_calls_39 rfl rfl ?_
    refine q_getIE (K) (kI := 23) (n := 43) (by decide) dX8_calls_40 rfl fX8_278 mi0 rfl rfl ha.1 ?_
    refine q_icmp_ge (n := 46) (t := 90) dX8_calls_43 rfl (by decide) (fun h43 => ?_) (fun h43 => ?_)
    · exact absurd h43 (by omega)
    · skip
      refine q_aload_n (n := 47) dX8_calls_46 rfl rfl ?_
      refine q_getR (n := 50) dX8_calls_47 rfl fX8_54 mi0 rfl ?_
      refine q_iload (n := 52) dX8_calls_50 rfl rfl ?_
      refine q_ialoadE (s 11 i) (n := 53) dX8_calls_52 rfl mi11 ⟨by omega, by omega⟩ rfl ?_
      refine q_if_ge (n := 56) (t := 59) dX8_calls_53 rfl (by decide) (fun h53 => ?_) (fun h53 => ?_)
      · exact absurd h53 (by omega)
      · skip
        refine q_go (t := 84) dX8_calls_56 (by decide) ?_
        refine q_iinc (n := 87) dX8_calls_84 rfl (Nat.le_of_ble_eq_true rfl) rfl (q_nwid ⟨by omega, by omega⟩) (q_s1_s (q_s1_s (q_s1_s (q_s1_s (q_s1_s (q_s1_1 rfl)))))) ?_
        refine q_go (t := 37) dX8_calls_87 (by decide) ?_
        exact ih (i + 1) (by omega) (by omega) (by omega)
set_option maxRecDepth 100000 in
theorem lpX8_cb (σ s : q_S) (v L w K : Int) (A : q_A5) (fi : Int → Int) (hn : 0 ≤ σ 1 1 ∧ σ 1 1 ≤ 8) (hA : okA (pM (σ 1) 3) (σ 1 1) (pM (σ 1) 6 v) w K A) (ha : askK s A (pM (σ 1) 6 v) w K) (hf : ag K (s 13) fi) (hr : ∀ j, 0 ≤ j → j < K → 0 ≤ fi j ∧ fi j < 12) (Q : Option q_V → q_S → Prop) : ∀ (n : Nat) (i : Int) (σ1 τ : q_S), (n : Int) + i = A.2.2.2.2 → 0 ≤ i → (∀ c, c ≠ 1 → σ1 c = kpM σ c) → pE (pM (σ1 1)) τ → KR (σ1 1) → σ1 1 1 = σ 1 1 → (∀ σ2 : q_S, (∀ c, c ≠ 1 → σ2 c = kpM σ c) → pE (pM (σ2 1)) (clK A.2.1 fi n i τ) → KR (σ2 1) → Q (some (.inl A.2.2.2.2)) (ovM σ2 s)) → q_WP mX8_calls shM 37 [some (.inr (.inr 0)), some (.inl v), some (.inl L), some (.inl w), some (.inl 0), some (.inl i), some (.inl i)] [] (ovM σ1 s) Q := by
  have hk5 := hA.2.2.2.2
  have hd := hA.2.2.2.1
  unfold disK at hd
  intro n
  induction n with
  | zero =>
    intro i σ1 τ hi h0 h1 h2 h3 h4 hQ
    obtain rfl : i = A.2.2.2.2 := by omega
    exact lpX8_ca σ s v L w K A.2.2.2.2 A hA ha Q σ1 (hQ σ1 h1 h2 h3) (K - A.2.2.2.2).toNat A.2.2.2.2 (by omega) h0 (Int.le_refl _)
  | succ n ih =>
    intro i σ1 τ hi h0 h1 h2 h3 h4 hQ
    have hc := (hA.1 i h0 (by omega)).2
    have e11 : s 11 i = A.2.1 i := ha.2.1 i h0 (by omega)
    have e13 : s 13 i = fi i := hf i h0 (by omega)
    have hfr := hr i h0 (by omega)
    refine q_iload (n := 39) dX8_calls_37 rfl rfl ?_
    refine q_aload_n (n := 40) dX8_calls_39 rfl rfl ?_
    refine q_getIE (K) (kI := 23) (n := 43) (by decide) dX8_calls_40 rfl fX8_278 mi0 rfl rfl ha.1 ?_
    refine q_icmp_ge (n := 46) (t := 90) dX8_calls_43 rfl (by decide) (fun h43 => ?_) (fun h43 => ?_)
    · exact absurd h43 (by omega)
    · skip
      refine q_aload_n (n := 47) dX8_calls_46 rfl rfl ?_
      refine q_getR (n := 50) dX8_calls_47 rfl fX8_54 mi0 rfl ?_
      refine q_iload (n := 52) dX8_calls_50 rfl rfl ?_
      refine q_ialoadE (A.2.1 i) (n := 53) dX8_calls_52 rfl mi11 ⟨by omega, by omega⟩ e11 ?_
      refine q_if_ge (n := 56) (t := 59) dX8_calls_53 rfl (by decide) (fun h53 => ?_) (fun h53 => ?_)
      · skip
        refine q_aload_n (n := 60) dX8_calls_59 rfl rfl ?_
        refine q_getR (n := 63) dX8_calls_60 rfl fX8_23 mi0 rfl ?_
        refine q_bipush (n := 65) dX8_calls_63 rfl (k := ?_)
        refine q_aload_n (n := 66) dX8_calls_65 rfl rfl ?_
        refine q_getR (n := 69) dX8_calls_66 rfl fX8_54 mi0 rfl ?_
        refine q_iload (n := 71) dX8_calls_69 rfl rfl ?_
        refine q_ialoadE (A.2.1 i) (n := 72) dX8_calls_71 rfl mi11 ⟨by omega, by omega⟩ e11 ?_
        refine q_iaddS (n := 73) dX8_calls_72 rfl ⟨by omega, by omega⟩ ?_
        refine q_aload_n (n := 74) dX8_calls_73 rfl rfl ?_
        refine q_getR (n := 77) dX8_calls_74 rfl fX8_60 mi0 rfl ?_
        refine q_iload (n := 79) dX8_calls_77 rfl rfl ?_
        refine q_ialoadE (fi i) (n := 80) dX8_calls_79 rfl mi13 ⟨by omega, by omega⟩ e13 ?_
        refine q_iastore (n := 81) dX8_calls_80 rfl mi1 ⟨by omega, by omega⟩ ?_
        rw [om_upn rfl]
        refine q_iinc (n := 84) dX8_calls_81 rfl (Nat.le_of_ble_eq_true rfl) rfl (q_nwid ⟨by omega, by omega⟩) (q_s1_s (q_s1_s (q_s1_s (q_s1_s (q_s1_1 rfl))))) ?_
        refine q_iinc (n := 87) dX8_calls_84 rfl (Nat.le_of_ble_eq_true rfl) rfl (q_nwid ⟨by omega, by omega⟩) (q_s1_s (q_s1_s (q_s1_s (q_s1_s (q_s1_s (q_s1_1 rfl)))))) ?_
        refine q_go (t := 37) dX8_calls_87 (by decide) ?_
        refine ih (i + 1) _ (q_up τ 3 (A.2.1 i) (fi i)) (by omega) (by omega) (fun c hc => (q_up_o hc).trans (h1 c hc)) ?_ ?_ ((q_up_n (by omega)).trans h4) hQ
        · rw [up_fn]
          have hz := kc_pE (t := A.2.1 i) (k := fi i) (n := σ1 1) ⟨by omega, by omega⟩
          rw [if_neg (by omega)] at hz
          exact pE_t hz (up_pE h2)
        · intro t t0 t1
          rw [up_fn] at t1 ⊢
          dsimp only at t1 ⊢
          rw [if_neg (by omega)] at t1
          by_cases e : 51 + t = 51 + A.2.1 i
          · rw [if_pos e]
            omega
          · rw [if_neg e]
            exact h3 t t0 t1
      · exact absurd h53 (by omega)
theorem oC_n {v L w : Int} {τ : q_S} (h : (oC v L w τ).1 < 0) : (oC v L w τ).2 = τ := if_neg (by show ¬ 0 ≤ (oC v L w τ).1; omega)
set_option maxRecDepth 100000 in
theorem zX8_calls (v L w : Int) (σ s : q_S) (hI : IM σ) : q_Ct mX8_calls shM [.inr (.inr 0), .inl v, .inl L, .inl w] (ovM σ s) (fun r σ' => ∃ z, r = some z ∧ (z = .inl ((oC v L w (pM (σ 1))).1) ∧ chM σ (oC v L w (pM (σ 1))) σ')) := by
  refine q_ct 3 (by decide) rfl rfl ?_
  show q_WP mX8_calls shM 0 [some (.inr (.inr 0)), some (.inl v), some (.inl L), some (.inl w), none, none, none] [] (ovM σ s) _
  have hn := hI.nt
  have hvv := hI.nv
  refine q_aload_n (n := 1) dX8_calls_0 rfl rfl ?_
  refine q_iload_n (n := 2) dX8_calls_1 rfl rfl ?_
  refine q_iload_n (n := 3) dX8_calls_2 rfl rfl ?_
  refine q_iload_n (n := 4) dX8_calls_3 rfl rfl ?_
  refine q_v3 (n := 7) dX8_calls_4 rfl (zX8_naming v L w σ s hI) vX8_naming lX8_290 rfl rfl mi0 rfl (fun v4 σ4 h4 => ?_)
  rcases h4 with ⟨rfl, hb, s2, rfl⟩ | ⟨rfl, hb, hb2, s2, rfl⟩ | ⟨rfl, hb, hv, s2, rfl, hn1, hn2, hn3, hn4⟩
  any_goals have hge := @wF_ge L (ak2 (akA (pM (σ 1) 2) (pM (σ 1) 3) (σ 1 1) (pM (σ 1) 6 v) (pM (σ 1) 7 v)) (pM (σ 1) 6 v) w)
  any_goals have eo : (oC v L w (pM (σ 1))).1 = fCalls (σ 1 1) (σ 1 2) (pM (σ 1) 2) (pM (σ 1) 3) (pM (σ 1) 6) (pM (σ 1) 7) v L w := rfl
  · skip
    refine q_istore (n := 9) dX8_calls_7 rfl (Nat.le_of_ble_eq_true rfl) (q_s1_s (q_s1_s (q_s1_s (q_s1_1 rfl)))) ?_
    refine q_iload (n := 11) dX8_calls_9 rfl rfl ?_
    refine q_if_eq (n := 14) (t := 17) dX8_calls_11 rfl (by decide) (fun h11 => ?_) (fun h11 => ?_)
    · exact absurd h11 (by decide)
    · skip
      refine q_iload (n := 16) dX8_calls_14 rfl rfl ?_
      refine q_iret dX8_calls_16 rfl (fun _ => rfl) ?_
      first
        | (have hfc : fCalls (σ 1 1) (σ 1 2) (pM (σ 1) 2) (pM (σ 1) 3) (pM (σ 1) 6) (pM (σ 1) 7) v L w = -1 := by
             unfold fCalls
             exact if_pos (by omega)
           exact ⟨_, rfl, by rw [eo, hfc], Or.inr ⟨by rw [eo, hfc]; decide, s2, rfl⟩⟩)
        | (have hfc : fCalls (σ 1 1) (σ 1 2) (pM (σ 1) 2) (pM (σ 1) 3) (pM (σ 1) 6) (pM (σ 1) 7) v L w = -5 := by
             unfold fCalls
             rw [if_neg (by omega), if_pos hb2]
           exact ⟨_, rfl, by rw [eo, hfc], Or.inr ⟨by rw [eo, hfc]; decide, s2, rfl⟩⟩)
        | (have hfc : fCalls (σ 1 1) (σ 1 2) (pM (σ 1) 2) (pM (σ 1) 3) (pM (σ 1) 6) (pM (σ 1) 7) v L w = -2 := by
             unfold fCalls
             rw [if_neg (by omega), if_neg hb.2, if_pos h21]
           exact ⟨_, rfl, by rw [eo, hfc], Or.inr ⟨by rw [eo, hfc]; decide, s2, rfl⟩⟩)
  · skip
    refine q_istore (n := 9) dX8_calls_7 rfl (Nat.le_of_ble_eq_true rfl) (q_s1_s (q_s1_s (q_s1_s (q_s1_1 rfl)))) ?_
    refine q_iload (n := 11) dX8_calls_9 rfl rfl ?_
    refine q_if_eq (n := 14) (t := 17) dX8_calls_11 rfl (by decide) (fun h11 => ?_) (fun h11 => ?_)
    · exact absurd h11 (by decide)
    · skip
      refine q_iload (n := 16) dX8_calls_14 rfl rfl ?_
      refine q_iret dX8_calls_16 rfl (fun _ => rfl) ?_
      first
        | (have hfc : fCalls (σ 1 1) (σ 1 2) (pM (σ 1) 2) (pM (σ 1) 3) (pM (σ 1) 6) (pM (σ 1) 7) v L w = -1 := by
             unfold fCalls
             exact if_pos (by omega)
           exact ⟨_, rfl, by rw [eo, hfc], Or.inr ⟨by rw [eo, hfc]; decide, s2, rfl⟩⟩)
        | (have hfc : fCalls (σ 1 1) (σ 1 2) (pM (σ 1) 2) (pM (σ 1) 3) (pM (σ 1) 6) (pM (σ 1) 7) v L w = -5 := by
             unfold fCalls
             rw [if_neg (by omega), if_pos hb2]
           exact ⟨_, rfl, by rw [eo, hfc], Or.inr ⟨by rw [eo, hfc]; decide, s2, rfl⟩⟩)
        | (have hfc : fCalls (σ 1 1) (σ 1 2) (pM (σ 1) 2) (pM (σ 1) 3) (pM (σ 1) 6) (pM (σ 1) 7) v L w = -2 := by
             unfold fCalls
             rw [if_neg (by omega), if_neg hb.2, if_pos h21]
           exact ⟨_, rfl, by rw [eo, hfc], Or.inr ⟨by rw [eo, hfc]; decide, s2, rfl⟩⟩)
  · skip
    refine q_istore (n := 9) dX8_calls_7 rfl (Nat.le_of_ble_eq_true rfl) (q_s1_s (q_s1_s (q_s1_s (q_s1_1 rfl)))) ?_
    refine q_iload (n := 11) dX8_calls_9 rfl rfl ?_
    refine q_if_eq (n := 14) (t := 17) dX8_calls_11 rfl (by decide) (fun h11 => ?_) (fun h11 => ?_)
    · skip
      refine q_aload_n (n := 18) dX8_calls_17 rfl rfl ?_
      refine q_getIE ((wF L (ak2 (akA (pM (σ 1) 2) (pM (σ 1) 3) (σ 1 1) (pM (σ 1) 6 v) (pM (σ 1) 7 v)) (pM (σ 1) 6 v) w)).2.2) (kI := 26) (n := 21) (by decide) dX8_calls_18 rfl fX8_281 mi0 rfl rfl hn1 ?_
      refine q_if_ne (n := 24) (t := 27) dX8_calls_21 rfl (by decide) (fun h21 => ?_) (fun h21 => ?_)
      · skip
        refine q_aload_n (n := 28) dX8_calls_27 rfl rfl ?_
        refine q_v0U (n := 31) dX8_calls_28 rfl (zX8_keeps σ _ hI) vX8_keeps lX8_141 rfl rfl mi0 rfl ?_
        refine q_iconst (n := 32) dX8_calls_31 rfl (k := ?_)
        refine q_istore (n := 34) dX8_calls_32 rfl (Nat.le_of_ble_eq_true rfl) (q_s1_s (q_s1_s (q_s1_s (q_s1_s (q_s1_1 rfl))))) ?_
        refine q_iconst (n := 35) dX8_calls_34 rfl (k := ?_)
        refine q_istore (n := 37) dX8_calls_35 rfl (Nat.le_of_ble_eq_true rfl) (q_s1_s (q_s1_s (q_s1_s (q_s1_s (q_s1_s (q_s1_1 rfl)))))) ?_
        have hok := okA_of (f := (pM (σ 1) 2)) (kd := (pM (σ 1) 3)) (lost := w) hn (hI.tie hv).2.2 (by omega)
        have h21 : (wF L (ak2 (akA (pM (σ 1) 2) (pM (σ 1) 3) (σ 1 1) (pM (σ 1) 6 v) (pM (σ 1) 7 v)) (pM (σ 1) 6 v) w)).2.2 ≠ 0 := h21
        have hfc : fCalls (σ 1 1) (σ 1 2) (pM (σ 1) 2) (pM (σ 1) 3) (pM (σ 1) 6) (pM (σ 1) 7) v L w = (akA (pM (σ 1) 2) (pM (σ 1) 3) (σ 1 1) (pM (σ 1) 6 v) (pM (σ 1) 7 v)).2.2.2.2 := by
          unfold fCalls
          rw [if_neg (by omega), if_neg hb.2, if_neg h21]
        have hk0 : 0 ≤ (akA (pM (σ 1) 2) (pM (σ 1) 3) (σ 1 1) (pM (σ 1) 6 v) (pM (σ 1) 7 v)).2.2.2.2 := hok.2.2.1
        have hp : 0 ≤ fCalls (σ 1 1) (σ 1 2) (pM (σ 1) 2) (pM (σ 1) 3) (pM (σ 1) 6) (pM (σ 1) 7) v L w := by omega
        have hd := hok.2.2.2.1
        unfold disK at hd
        refine lpX8_cb σ s2 v L w (ak2 (akA (pM (σ 1) 2) (pM (σ 1) 3) (σ 1 1) (pM (σ 1) 6 v) (pM (σ 1) 7 v)) (pM (σ 1) 6 v) w).2.2.2.2 (akA (pM (σ 1) 2) (pM (σ 1) 3) (σ 1 1) (pM (σ 1) 6 v) (pM (σ 1) 7 v)) (wF L (ak2 (akA (pM (σ 1) 2) (pM (σ 1) 3) (σ 1 1) (pM (σ 1) 6 v) (pM (σ 1) 7 v)) (pM (σ 1) 6 v) w)).2.1 hn hok hn4 (hn3 h21) (wF_rng (by omega) h21) _ (akA (pM (σ 1) 2) (pM (σ 1) 3) (σ 1 1) (pM (σ 1) 6 v) (pM (σ 1) 7 v)).2.2.2.2.toNat 0 (kpM σ) (pM (σ 1)) (by omega) (by decide) (fun _ _ => rfl) (by rw [kpM_1]; exact pE_r) (by rw [kpM_1]; exact hI.2.1) (by rw [kpM_1]) (fun σ2 h1 h2 h3 => ?_)
        have e2 : (oC v L w (pM (σ 1))).2 = clK (akA (pM (σ 1) 2) (pM (σ 1) 3) (σ 1 1) (pM (σ 1) 6 v) (pM (σ 1) 7 v)).2.1 (wF L (ak2 (akA (pM (σ 1) 2) (pM (σ 1) 3) (σ 1 1) (pM (σ 1) 6 v) (pM (σ 1) 7 v)) (pM (σ 1) 6 v) w)).2.1 (akA (pM (σ 1) 2) (pM (σ 1) 3) (σ 1 1) (pM (σ 1) 6 v) (pM (σ 1) 7 v)).2.2.2.2.toNat 0 (pM (σ 1)) := if_pos hp
        exact ⟨_, rfl, congrArg Sum.inl (hfc.symm.trans eo.symm), Or.inl ⟨by rw [eo]; exact hp, σ2, s2, rfl, h1, by rw [e2]; exact h2, h3⟩⟩
      · skip
        refine q_bipush (n := 26) dX8_calls_24 rfl (k := ?_)
        refine q_iret dX8_calls_26 rfl (fun _ => rfl) ?_
        first
          | (have hfc : fCalls (σ 1 1) (σ 1 2) (pM (σ 1) 2) (pM (σ 1) 3) (pM (σ 1) 6) (pM (σ 1) 7) v L w = -1 := by
               unfold fCalls
               exact if_pos (by omega)
             exact ⟨_, rfl, by rw [eo, hfc], Or.inr ⟨by rw [eo, hfc]; decide, s2, rfl⟩⟩)
          | (have hfc : fCalls (σ 1 1) (σ 1 2) (pM (σ 1) 2) (pM (σ 1) 3) (pM (σ 1) 6) (pM (σ 1) 7) v L w = -5 := by
               unfold fCalls
               rw [if_neg (by omega), if_pos hb2]
             exact ⟨_, rfl, by rw [eo, hfc], Or.inr ⟨by rw [eo, hfc]; decide, s2, rfl⟩⟩)
          | (have hfc : fCalls (σ 1 1) (σ 1 2) (pM (σ 1) 2) (pM (σ 1) 3) (pM (σ 1) 6) (pM (σ 1) 7) v L w = -2 := by
               unfold fCalls
               rw [if_neg (by omega), if_neg hb.2, if_pos h21]
             exact ⟨_, rfl, by rw [eo, hfc], Or.inr ⟨by rw [eo, hfc]; decide, s2, rfl⟩⟩)
    · exact absurd h11 (by decide)
