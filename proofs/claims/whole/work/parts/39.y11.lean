def ltr (k : Int) : Int := if 0 ≤ k ∧ k < 12 then q_let.getD k.toNat 0 else 63
def prb (σ : q_S) (g : Int → Int) (m : Int) : q_S := q_up (q_row σ 94 g) 0 11 m
theorem prb_put {σ : q_S} {g : Int → Int} {m c : Int} : q_up (q_up (prb σ g m) 94 m c) 0 11 (m + 1) = prb σ (ud g m c) (m + 1) := by
  funext c' x'
  unfold prb q_up q_row ud
  by_cases h : c' = 0
  · subst h
    by_cases h2 : x' = 11
    · simp [h2]
    · simp [h2]
  · by_cases h3 : c' = 94
    · subst h3
      by_cases h2 : x' = m <;> simp [h2]
    · simp [h, h3]
def prL (kd : Int → Int) (b : Int) : Nat → Int → (Int → Int) × Int → (Int → Int) × Int
  | 0, _, s => s
  | n + 1, i, s => prL kd b n (i + 1) (if q_and (q_shr b i) 1 = 1 then (ud s.1 s.2 (ltr (kd i)), s.2 + 1) else s)
def prF (kd : Int → Int) (nt a b : Int) (g : Int → Int) : (Int → Int) × Int := prL kd b nt.toNat 0 (if a = -1 then (ud (ud g 0 45) (0 + 1) 62, 0 + 1 + 1) else (ud (ud (ud g 0 (ltr (kd a))) (0 + 1) 45) (0 + 1 + 1) 62, 0 + 1 + 1 + 1))
theorem ltr_rng {k : Int} : 0 ≤ ltr k ∧ ltr k < 65536 := by
  unfold ltr
  split
  · have := (let_rng (by assumption)).1
    omega
  · omega
set_option maxRecDepth 100000 in
theorem zX7_letterOf (t : Int) (σ s : q_S) (ht : 0 ≤ t ∧ t < 8) : q_Ct mX7_letterOf shX [.inr (.inr 0), .inl t] (ov σ s) (fun r σ' => r = some (.inl (ltr (σ 3 t))) ∧ σ' = ov σ s) := by
  refine q_ct 1 (by decide) rfl rfl ?_
  show q_WP mX7_letterOf shX 0 [some (.inr (.inr 0)), some (.inl t), none] [] (ov σ s) _
  refine q_aload_n (n := 1) dX7_letterOf_0 rfl rfl ?_
  refine q_getR (n := 4) dX7_letterOf_1 rfl fX7_12 xi0 rfl ?_
  refine q_getR (n := 7) dX7_letterOf_4 rfl fX7_123 xi1 rfl ?_
  refine q_iload_n (n := 8) dX7_letterOf_7 rfl rfl ?_
  refine q_ialoadF (σ 3) (n := 9) dX7_letterOf_8 rfl xi3 ⟨by omega, by omega⟩ rfl ?_
  refine q_istore_n (n := 10) dX7_letterOf_9 rfl (Nat.le_of_ble_eq_true rfl) (q_s1_s (q_s1_1 rfl)) ?_
  refine q_iload_n (n := 11) dX7_letterOf_10 rfl rfl ?_
  refine q_c1D (n := 14) dX7_letterOf_11 rfl (zX7_isKind _ _) vX7_isKind lX7_150 rfl rfl ?_
  refine q_if_eq (n := 17) (t := 27) dX7_letterOf_14 rfl (by decide) (fun h14 => ?_) (fun h14 => ?_)
  · have h14 := q_b0.mp h14
    refine q_bipush (n := 29) dX7_letterOf_27 rfl (k := ?_)
    refine q_iret dX7_letterOf_29 rfl (fun _ => nar_char ⟨by first | exact (let_rng h14).1.1 | decide, by first | (have := (let_rng h14).1.2; omega) | decide⟩) ?_
    unfold ltr
    first
      | (rw [if_pos h14]; exact ⟨rfl, rfl⟩)
      | (rw [if_neg h14]; exact ⟨rfl, rfl⟩)
  · have h14 := q_b1.mp h14
    refine q_ldcw410 (n := 20) dX7_letterOf_17 rfl rfl ?_
    refine q_iload_n (n := 21) dX7_letterOf_20 rfl rfl ?_
    refine q_t1 (n := 24) dX7_letterOf_21 rfl (zJ0_charAt_5068e _ _ _ h14) vJ0_charAt_5068e rfl lX7_412 rfl rfl ?_
    refine q_go (t := 29) dX7_letterOf_24 (by decide) ?_
    refine q_iret dX7_letterOf_29 rfl (fun _ => nar_char ⟨by first | exact (let_rng h14).1.1 | decide, by first | (have := (let_rng h14).1.2; omega) | decide⟩) ?_
    unfold ltr
    first
      | (rw [if_pos h14]; exact ⟨rfl, rfl⟩)
      | (rw [if_neg h14]; exact ⟨rfl, rfl⟩)
theorem zP_letterOf (t : Int) (σ s : q_S) (g : Int → Int) (m : Int) (ht : 0 ≤ t ∧ t < 8) : q_Ct mX7_letterOf shX [.inr (.inr 0), .inl t] (ov (prb σ g m) s) (fun r σ' => r = some (.inl (ltr (σ 3 t))) ∧ σ' = ov (prb σ g m) s) := zX7_letterOf t (prb σ g m) s ht
theorem zP_goesOut (σ s : q_S) (g : Int → Int) (m v t : Int) (hv : 0 ≤ v ∧ v < 4) : q_Ct mX3_goesOut shX [.inr (.inr 1), .inl v, .inl t] (ov (prb σ g m) s) (fun r σ' => r = some (.inl (if q_and (q_shr (σ 7 v) t) 1 = 1 then 1 else 0)) ∧ σ' = ov (prb σ g m) s) := zO_goesOut (prb σ g m) s v t hv
theorem zP_printLetter (c : Int) (σ s : q_S) (g : Int → Int) (m : Int) (h : 0 ≤ m ∧ m < 6) (hc : 0 ≤ c ∧ c < 65536) : q_Ct mX7_printLetter shX [.inr (.inr 0), .inl c] (ov (prb σ g m) s) (fun r σ' => r = none ∧ σ' = ov (prb σ (ud g m c) (m + 1)) s) := by
  have h1 := zX7_printLetter c (prb σ g m) s h hc
  have e : q_up (q_up (prb σ g m) 94 (prb σ g m 0 11) c) 0 11 (prb σ g m 0 11 + 1) = prb σ (ud g m c) (m + 1) := prb_put
  rw [e] at h1
  exact h1
set_option maxRecDepth 100000 in
theorem lpX7_pr (σ s : q_S) (v oi : Int) (hv : 0 ≤ v ∧ v < 4) (h8 : σ 1 1 ≤ 8) : ∀ (n : Nat) (i : Int) (a : (Int → Int) × Int), (n : Int) + i = σ 1 1 → 0 ≤ i → 0 ≤ a.2 → a.2 + nbL (σ 7 v) n i ≤ 6 → q_WP mX7_prints shX 56 [some (.inr (.inr 0)), some (.inl v), some (.inl oi), some (.inl i)] [] (ov (prb σ a.1 a.2) s) (fun r σ' => r = some (.inl (prL (σ 3) (σ 7 v) n i a).2) ∧ σ' = ov (prb σ (prL (σ 3) (σ 7 v) n i a).1 (prL (σ 3) (σ 7 v) n i a).2) s) := by
  intro n
  induction n with
  | zero =>
    intro i a hi h0 ha hb
    refine q_iload_n (n := 57) dX7_prints_56 rfl rfl ?_
    refine q_aload_n (n := 58) dX7_prints_57 rfl rfl ?_
    refine q_getR (n := 61) dX7_prints_58 rfl fX7_12 xi0 rfl ?_
    refine q_getIF (σ 1) (kI := 1) (n := 64) (by decide) dX7_prints_61 rfl fX7_159 xi1 rfl rfl rfl ?_
    refine q_icmp_ge (n := 67) (t := 94) dX7_prints_64 rfl (by decide) (fun h64 => ?_) (fun h64 => ?_)
    · skip
      refine q_aload_n (n := 95) dX7_prints_94 rfl rfl ?_
      refine q_getIE (a.2) (kI := 11) (n := 98) (by decide) dX7_prints_95 rfl fX7_70 xi0 rfl rfl rfl ?_
      refine q_iret dX7_prints_98 rfl (fun _ => rfl) ?_
      exact ⟨rfl, rfl⟩
    · exact absurd h64 (by omega)
  | succ n ih =>
    intro i a hi h0 ha hb
    have hnb := nbL_0 (o := σ 7 v) n (i + 1)
    rw [nbL] at hb
    refine q_iload_n (n := 57) dX7_prints_56 rfl rfl ?_
    refine q_aload_n (n := 58) dX7_prints_57 rfl rfl ?_
    refine q_getR (n := 61) dX7_prints_58 rfl fX7_12 xi0 rfl ?_
    refine q_getIF (σ 1) (kI := 1) (n := 64) (by decide) dX7_prints_61 rfl fX7_159 xi1 rfl rfl rfl ?_
    refine q_icmp_ge (n := 67) (t := 94) dX7_prints_64 rfl (by decide) (fun h64 => ?_) (fun h64 => ?_)
    · exact absurd h64 (by omega)
    · skip
      refine q_aload_n (n := 68) dX7_prints_67 rfl rfl ?_
      refine q_getR (n := 71) dX7_prints_68 rfl fX7_12 xi0 rfl ?_
      refine q_iload_n (n := 72) dX7_prints_71 rfl rfl ?_
      refine q_iload_n (n := 73) dX7_prints_72 rfl rfl ?_
      refine q_v2D (n := 76) dX7_prints_73 rfl (zP_goesOut σ s _ _ _ _ ⟨by omega, by omega⟩) vX3_goesOut lX7_240 rfl rfl xi1 rfl ?_
      refine q_if_eq (n := 79) (t := 88) dX7_prints_76 rfl (by decide) (fun h76 => ?_) (fun h76 => ?_)
      · have h76 := q_b0.mp h76
        rw [if_neg h76] at hb
        refine q_iinc (n := 91) dX7_prints_88 rfl (Nat.le_of_ble_eq_true rfl) rfl (q_nwid ⟨by omega, by omega⟩) (q_s1_s (q_s1_s (q_s1_1 rfl))) ?_
        refine q_go (t := 56) dX7_prints_91 (by decide) ?_
        rw [prL]
        first
          | (rw [if_pos h76]; exact ih (i + 1) (ud a.1 a.2 (ltr (σ 3 i)), a.2 + 1) (by omega) (by omega) (by dsimp only; omega) (by dsimp only; omega))
          | (rw [if_neg h76]; exact ih (i + 1) a (by omega) (by omega) ha (by omega))
      · have h76 := q_b1.mp h76
        rw [if_pos h76] at hb
        refine q_aload_n (n := 80) dX7_prints_79 rfl rfl ?_
        refine q_aload_n (n := 81) dX7_prints_80 rfl rfl ?_
        refine q_iload_n (n := 82) dX7_prints_81 rfl rfl ?_
        refine q_v1D (n := 85) dX7_prints_82 rfl (zP_letterOf _ σ s _ _ (by omega)) vX7_letterOf lX7_302 rfl rfl xi0 rfl ?_
        refine q_v1U (n := 88) dX7_prints_85 rfl (zP_printLetter _ σ s _ _ ⟨by omega, by omega⟩ (by first | exact ltr_rng | decide)) vX7_printLetter lX7_306 rfl rfl xi0 rfl ?_
        refine q_iinc (n := 91) dX7_prints_88 rfl (Nat.le_of_ble_eq_true rfl) rfl (q_nwid ⟨by omega, by omega⟩) (q_s1_s (q_s1_s (q_s1_1 rfl))) ?_
        refine q_go (t := 56) dX7_prints_91 (by decide) ?_
        rw [prL]
        first
          | (rw [if_pos h76]; exact ih (i + 1) (ud a.1 a.2 (ltr (σ 3 i)), a.2 + 1) (by omega) (by omega) (by dsimp only; omega) (by dsimp only; omega))
          | (rw [if_neg h76]; exact ih (i + 1) a (by omega) (by omega) ha (by omega))
set_option maxRecDepth 100000 in
theorem zX7_prints (v : Int) (σ s : q_S) (hI : IX σ) : q_Ct mX7_prints shX [.inr (.inr 0), .inl v] (ov σ s) (fun r σ' => (¬ (0 ≤ v ∧ v < σ 1 2) ∧ r = some (.inl (-1)) ∧ σ' = ov σ s) ∨ (0 ≤ v ∧ v < σ 1 2) ∧ r = some (.inl (prF (σ 3) (σ 1 1) (σ 6 v) (σ 7 v) (σ 94)).2) ∧ σ' = ov (prb σ (prF (σ 3) (σ 1 1) (σ 6 v) (σ 7 v) (σ 94)).1 (prF (σ 3) (σ 1 1) (σ 6 v) (σ 7 v) (σ 94)).2) s) := by
  refine q_ct 2 (by decide) rfl rfl ?_
  show q_WP mX7_prints shX 0 [some (.inr (.inr 0)), some (.inl v), none, none] [] (ov σ s) _
  have hvv := hI.1.2.2.1
  have hn := hI.1.2.1
  refine q_aload_n (n := 1) dX7_prints_0 rfl rfl ?_
  refine q_getR (n := 4) dX7_prints_1 rfl fX7_12 xi0 rfl ?_
  refine q_iload_n (n := 5) dX7_prints_4 rfl rfl ?_
  refine q_v1D (n := 8) dX7_prints_5 rfl (zO_hasVertex _ _ _) vX3_hasVertex lX7_135 rfl rfl xi1 rfl ?_
  refine q_if_ne (n := 11) (t := 13) dX7_prints_8 rfl (by decide) (fun h8 => ?_) (fun h8 => ?_)
  · have hv := q_b1.mp h8
    have hvt := (hI.tie hv).2.2
    have hb := tie_bits hn hvt
    have ht1 := hvt.1
    refine q_aload_n (n := 14) dX7_prints_13 rfl rfl ?_
    refine q_iconst (n := 15) dX7_prints_14 rfl (k := ?_)
    refine q_putI (kI := 11) (n := 18) dX7_prints_15 rfl pX7_70 xi0 rfl rfl ?_
    rw [ov_upn rfl]
    refine q_cut _ _ (ov (prb σ (σ 94) 0) s) rfl rfl (by unfold prb; rw [q_row_0]) ?_
    refine q_aload_n (n := 19) dX7_prints_18 rfl rfl ?_
    refine q_getR (n := 22) dX7_prints_19 rfl fX7_12 xi0 rfl ?_
    refine q_getR (n := 25) dX7_prints_22 rfl fX7_144 xi1 rfl ?_
    refine q_iload_n (n := 26) dX7_prints_25 rfl rfl ?_
    refine q_ialoadF (σ 6) (n := 27) dX7_prints_26 rfl xi6 ⟨by omega, by omega⟩ rfl ?_
    refine q_istore_n (n := 28) dX7_prints_27 rfl (Nat.le_of_ble_eq_true rfl) (q_s1_s (q_s1_1 rfl)) ?_
    refine q_iload_n (n := 29) dX7_prints_28 rfl rfl ?_
    refine q_iconst (n := 30) dX7_prints_29 rfl (k := ?_)
    refine q_icmp_eq (n := 33) (t := 42) dX7_prints_30 rfl (by decide) (fun h30 => ?_) (fun h30 => ?_)
    · skip
      refine q_aload_n (n := 43) dX7_prints_42 rfl rfl ?_
      refine q_bipush (n := 45) dX7_prints_43 rfl (k := ?_)
      refine q_v1U (n := 48) dX7_prints_45 rfl (zP_printLetter _ σ s _ _ ⟨by omega, by omega⟩ (by first | exact ltr_rng | decide)) vX7_printLetter lX7_306 rfl rfl xi0 rfl ?_
      refine q_aload_n (n := 49) dX7_prints_48 rfl rfl ?_
      refine q_bipush (n := 51) dX7_prints_49 rfl (k := ?_)
      refine q_v1U (n := 54) dX7_prints_51 rfl (zP_printLetter _ σ s _ _ ⟨by omega, by omega⟩ (by first | exact ltr_rng | decide)) vX7_printLetter lX7_306 rfl rfl xi0 rfl ?_
      refine q_iconst (n := 55) dX7_prints_54 rfl (k := ?_)
      refine q_istore_n (n := 56) dX7_prints_55 rfl (Nat.le_of_ble_eq_true rfl) (q_s1_s (q_s1_s (q_s1_1 rfl))) ?_
      have e : (prF (σ 3) (σ 1 1) (σ 6 v) (σ 7 v) (σ 94)) = prL (σ 3) (σ 7 v) (σ 1 1).toNat 0 (if σ 6 v = -1 then (ud (ud (σ 94) 0 45) (0 + 1) 62, 0 + 1 + 1) else (ud (ud (ud (σ 94) 0 (ltr (σ 3 (σ 6 v)))) (0 + 1) 45) (0 + 1 + 1) 62, 0 + 1 + 1 + 1)) := rfl
      first
        | (rw [if_pos h30] at e
           refine (lpX7_pr σ s v _ (by omega) hn.2 (σ 1 1).toNat 0 (ud (ud (σ 94) 0 45) (0 + 1) 62, 0 + 1 + 1) (by omega) (by decide) (by dsimp only; omega) (by dsimp only; omega)).imp ?_
           rintro r σ2 ⟨h1, h2⟩
           exact Or.inr ⟨hv, by rw [e]; exact h1, by rw [e]; exact h2⟩)
        | (rw [if_neg h30] at e
           refine (lpX7_pr σ s v _ (by omega) hn.2 (σ 1 1).toNat 0 (ud (ud (ud (σ 94) 0 (ltr (σ 3 (σ 6 v)))) (0 + 1) 45) (0 + 1 + 1) 62, 0 + 1 + 1 + 1) (by omega) (by decide) (by dsimp only; omega) (by dsimp only; omega)).imp ?_
           rintro r σ2 ⟨h1, h2⟩
           exact Or.inr ⟨hv, by rw [e]; exact h1, by rw [e]; exact h2⟩)
    · skip
      refine q_aload_n (n := 34) dX7_prints_33 rfl rfl ?_
      refine q_aload_n (n := 35) dX7_prints_34 rfl rfl ?_
      refine q_iload_n (n := 36) dX7_prints_35 rfl rfl ?_
      refine q_v1D (n := 39) dX7_prints_36 rfl (zP_letterOf _ σ s _ _ (by omega)) vX7_letterOf lX7_302 rfl rfl xi0 rfl ?_
      refine q_v1U (n := 42) dX7_prints_39 rfl (zP_printLetter _ σ s _ _ ⟨by omega, by omega⟩ (by first | exact ltr_rng | decide)) vX7_printLetter lX7_306 rfl rfl xi0 rfl ?_
      refine q_aload_n (n := 43) dX7_prints_42 rfl rfl ?_
      refine q_bipush (n := 45) dX7_prints_43 rfl (k := ?_)
      refine q_v1U (n := 48) dX7_prints_45 rfl (zP_printLetter _ σ s _ _ ⟨by omega, by omega⟩ (by first | exact ltr_rng | decide)) vX7_printLetter lX7_306 rfl rfl xi0 rfl ?_
      refine q_aload_n (n := 49) dX7_prints_48 rfl rfl ?_
      refine q_bipush (n := 51) dX7_prints_49 rfl (k := ?_)
      refine q_v1U (n := 54) dX7_prints_51 rfl (zP_printLetter _ σ s _ _ ⟨by omega, by omega⟩ (by first | exact ltr_rng | decide)) vX7_printLetter lX7_306 rfl rfl xi0 rfl ?_
      refine q_iconst (n := 55) dX7_prints_54 rfl (k := ?_)
      refine q_istore_n (n := 56) dX7_prints_55 rfl (Nat.le_of_ble_eq_true rfl) (q_s1_s (q_s1_s (q_s1_1 rfl))) ?_
      have e : (prF (σ 3) (σ 1 1) (σ 6 v) (σ 7 v) (σ 94)) = prL (σ 3) (σ 7 v) (σ 1 1).toNat 0 (if σ 6 v = -1 then (ud (ud (σ 94) 0 45) (0 + 1) 62, 0 + 1 + 1) else (ud (ud (ud (σ 94) 0 (ltr (σ 3 (σ 6 v)))) (0 + 1) 45) (0 + 1 + 1) 62, 0 + 1 + 1 + 1)) := rfl
      first
        | (rw [if_pos h30] at e
           refine (lpX7_pr σ s v _ (by omega) hn.2 (σ 1 1).toNat 0 (ud (ud (σ 94) 0 45) (0 + 1) 62, 0 + 1 + 1) (by omega) (by decide) (by dsimp only; omega) (by dsimp only; omega)).imp ?_
           rintro r σ2 ⟨h1, h2⟩
           exact Or.inr ⟨hv, by rw [e]; exact h1, by rw [e]; exact h2⟩)
        | (rw [if_neg h30] at e
           refine (lpX7_pr σ s v _ (by omega) hn.2 (σ 1 1).toNat 0 (ud (ud (ud (σ 94) 0 (ltr (σ 3 (σ 6 v)))) (0 + 1) 45) (0 + 1 + 1) 62, 0 + 1 + 1 + 1) (by omega) (by decide) (by dsimp only; omega) (by dsimp only; omega)).imp ?_
           rintro r σ2 ⟨h1, h2⟩
           exact Or.inr ⟨hv, by rw [e]; exact h1, by rw [e]; exact h2⟩)
  · have hv := q_b0.mp h8
    refine q_iconst (n := 12) dX7_prints_11 rfl (k := ?_)
    refine q_iret dX7_prints_12 rfl (fun _ => rfl) ?_
    exact Or.inl ⟨hv, rfl, rfl⟩
def clK (ow fi : Int → Int) : Nat → Int → q_S → q_S
  | 0, _, σ => σ
  | n + 1, i, σ => clK ow fi n (i + 1) (q_up σ 3 (ow i) (fi i))
theorem clK_o {ow fi : Int → Int} : ∀ (n : Nat) (i : Int) (σ : q_S) (c : Int), c ≠ 3 → clK ow fi n i σ c = σ c := by
  intro n
  induction n with
  | zero => intro i σ c _; rfl
  | succ n ih =>
    intro i σ c hc
    rw [clK, ih (i + 1) _ c hc, q_up_o hc]
theorem akL_ow {f kd g : Int → Int} {a nt : Int} : ∀ (n : Nat) (i : Int) (A : q_A5), 0 ≤ A.2.2.2.2 → (∀ j, 0 ≤ j → j < A.2.2.2.2 → 0 ≤ A.2.1 j ∧ A.2.1 j < nt) → (∀ j, i ≤ j → j < i + n → 0 ≤ g j ∧ g j < nt) → ∀ j, 0 ≤ j → j < (akL f kd a g n i A).2.2.2.2 → 0 ≤ (akL f kd a g n i A).2.1 j ∧ (akL f kd a g n i A).2.1 j < nt := by
  intro n
  induction n with
  | zero => intro i A _ h _; exact h
  | succ n ih =>
    intro i A hk h hg
    rw [akL]
    have hgi := hg i (by omega) (by omega)
    refine ih (i + 1) _ ?_ ?_ (fun j h1 h2 => hg j (by omega) (by omega))
    · unfold akS pushA
      split
      · dsimp only
        omega
      · exact hk
    · unfold akS
      split
      · intro j h1 h2
        unfold pushA at h2 ⊢
        dsimp only at h2 ⊢
        unfold ud
        by_cases e : j = A.2.2.2.2
        · rw [if_pos e]; exact hgi
        · rw [if_neg e]; exact h j h1 (by omega)
      · exact h
theorem ak2_ow {A : q_A5} {a w : Int} (hk : 0 ≤ A.2.2.2.2) : ag A.2.2.2.2 (ak2 A a w).2.1 A.2.1 ∧ A.2.2.2.2 ≤ (ak2 A a w).2.2.2.2 := by
  have h1 : ∀ (B : q_A5) (x y z : Int), 0 ≤ B.2.2.2.2 → ag B.2.2.2.2 (pushA B x y z).2.1 B.2.1 := fun B x y z hB => ag_udr ag_refl
  have h2 : ∀ (B : q_A5) (x y z : Int), (pushA B x y z).2.2.2.2 = B.2.2.2.2 + 1 := fun _ _ _ _ => rfl
  unfold ak2
  by_cases hw : w = 1
  · rw [if_pos hw]
    by_cases ha : a = -1
    · rw [if_pos ha]
      refine ⟨ag_trans (ag_mono (h1 _ _ _ _ (by rw [h2]; omega)) (by rw [h2]; omega)) (h1 A (-1) 0 1 hk), by rw [h2, h2]; omega⟩
    · rw [if_neg ha]
      exact ⟨h1 A _ _ _ hk, by rw [h2]; omega⟩
  · rw [if_neg hw]
    by_cases ha : a = -1
    · rw [if_pos ha]
      exact ⟨h1 A _ _ _ hk, by rw [h2]; omega⟩
    · rw [if_neg ha]
      exact ⟨ag_refl, Int.le_refl _⟩
def fCalls (nt nv : Int) (f kd as os : Int → Int) (v L w : Int) : Int := if ¬ ((0 ≤ v ∧ v < nv) ∧ (0 ≤ L ∧ L < 3) ∧ (w = 0 ∨ w = 1)) then -1 else if 3 < (akA f kd nt (as v) (os v)).2.2.2.2 then -5 else if (wF L (ak2 (akA f kd nt (as v) (os v)) (as v) w)).2.2 = 0 then -2 else (akA f kd nt (as v) (os v)).2.2.2.2
set_option maxRecDepth 100000 in
theorem lpX7_cl (s : q_S) (v L w k : Int) (ow fi : Int → Int) (Q : Option q_V → q_S → Prop) (hk : k ≤ 8) (h1 : ag k (s 85) ow) (h2 : ag k (s 89) fi) (hk5 : k ≤ 5) (hr : ∀ j, 0 ≤ j → j < k → 0 ≤ ow j ∧ ow j < 8) : ∀ (n : Nat) (i : Int) (τ : q_S), (n : Int) + i = k → 0 ≤ i → (q_WP mX7_calls shX 96 [some (.inr (.inr 0)), some (.inl v), some (.inl L), some (.inl w), some (.inl k), some (.inl k)] [] (ov (clK ow fi n i τ) s) Q) → q_WP mX7_calls shX 55 [some (.inr (.inr 0)), some (.inl v), some (.inl L), some (.inl w), some (.inl k), some (.inl i)] [] (ov τ s) Q := by
  intro n
  induction n with
  | zero =>
    intro i τ hi h0 hq
    obtain rfl : i = k := by omega
    refine q_iload (n := 57) dX7_calls_55 rfl rfl ?_
    refine q_iload (n := 59) dX7_calls_57 rfl rfl ?_
    refine q_icmp_ge (n := 62) (t := 96) dX7_calls_59 rfl (by decide) (fun h59 => ?_) (fun h59 => ?_)
    · skip
      exact hq
    · exact absurd h59 (by omega)
  | succ n ih =>
    intro i τ hi h0 hq
    have hri := hr i h0 (by omega)
    refine q_iload (n := 57) dX7_calls_55 rfl rfl ?_
    refine q_iload (n := 59) dX7_calls_57 rfl rfl ?_
    refine q_icmp_ge (n := 62) (t := 96) dX7_calls_59 rfl (by decide) (fun h59 => ?_) (fun h59 => ?_)
    · exact absurd h59 (by omega)
    · skip
      refine q_aload_n (n := 63) dX7_calls_62 rfl rfl ?_
      refine q_getR (n := 66) dX7_calls_63 rfl fX7_12 xi0 rfl ?_
      refine q_getR (n := 69) dX7_calls_66 rfl fX7_123 xi1 rfl ?_
      refine q_aload_n (n := 70) dX7_calls_69 rfl rfl ?_
      refine q_getR (n := 73) dX7_calls_70 rfl fX7_55 xi0 rfl ?_
      refine q_getR (n := 76) dX7_calls_73 rfl fX7_271 xi84 rfl ?_
      refine q_iload (n := 78) dX7_calls_76 rfl rfl ?_
      refine q_ialoadE (ow i) (n := 79) dX7_calls_78 rfl xi85 ⟨by omega, by omega⟩ (h1 i h0 (by omega)) ?_
      refine q_aload_n (n := 80) dX7_calls_79 rfl rfl ?_
      refine q_getR (n := 83) dX7_calls_80 rfl fX7_55 xi0 rfl ?_
      refine q_getR (n := 86) dX7_calls_83 rfl fX7_268 xi84 rfl ?_
      refine q_iload (n := 88) dX7_calls_86 rfl rfl ?_
      refine q_ialoadE (fi i) (n := 89) dX7_calls_88 rfl xi89 ⟨by omega, by omega⟩ (h2 i h0 (by omega)) ?_
      refine q_iastore (n := 90) dX7_calls_89 rfl xi3 ⟨by omega, by omega⟩ ?_
      refine q_iinc (n := 93) dX7_calls_90 rfl (Nat.le_of_ble_eq_true rfl) rfl (q_nwid ⟨by omega, by omega⟩) (q_s1_s (q_s1_s (q_s1_s (q_s1_s (q_s1_1 rfl))))) ?_
      refine q_go (t := 55) dX7_calls_93 (by decide) ?_
      rw [ov_upn rfl]
      exact ih (i + 1) _ (by omega) (by omega) hq
set_option maxRecDepth 100000 in
theorem zX7_calls (v L w : Int) (σ s : q_S) (hI : IX σ) : q_Ct mX7_calls shX [.inr (.inr 0), .inl v, .inl L, .inl w] (ov σ s) (fun r σ' => r = some (.inl (fCalls (σ 1 1) (σ 1 2) (σ 2) (σ 3) (σ 6) (σ 7) v L w)) ∧ (((fCalls (σ 1 1) (σ 1 2) (σ 2) (σ 3) (σ 6) (σ 7) v L w) < 0 ∧ ∃ s', σ' = ov σ s') ∨ (((0 ≤ v ∧ v < σ 1 2) ∧ (0 ≤ L ∧ L < 3) ∧ (w = 0 ∨ w = 1)) ∧ (wF L (ak2 (akA (σ 2) (σ 3) (σ 1 1) (σ 6 v) (σ 7 v)) (σ 6 v) w)).2.2 ≠ 0 ∧ 0 ≤ (fCalls (σ 1 1) (σ 1 2) (σ 2) (σ 3) (σ 6) (σ 7) v L w) ∧ ∃ σ1 s', pcopied σ σ1 1 (10 + 7 * σ 8 1) ∧ σ' = ov (stl (clK (akA (σ 2) (σ 3) (σ 1 1) (σ 6 v) (σ 7 v)).2.1 (wF L (ak2 (akA (σ 2) (σ 3) (σ 1 1) (σ 6 v) (σ 7 v)) (σ 6 v) w)).2.1 (akA (σ 2) (σ 3) (σ 1 1) (σ 6 v) (σ 7 v)).2.2.2.2.toNat 0 σ1)) s'))) := by
  refine q_ct 2 (by decide) rfl rfl ?_
  show q_WP mX7_calls shX 0 [some (.inr (.inr 0)), some (.inl v), some (.inl L), some (.inl w), none, none] [] (ov σ s) _
  have hI0 := hI
  have hvv := hI.1.2.2.1
  have hn := hI.1.2.1
  refine q_aload_n (n := 1) dX7_calls_0 rfl rfl ?_
  refine q_iload_n (n := 2) dX7_calls_1 rfl rfl ?_
  refine q_iload_n (n := 3) dX7_calls_2 rfl rfl ?_
  refine q_iload_n (n := 4) dX7_calls_3 rfl rfl ?_
  refine q_v3D (n := 7) dX7_calls_4 rfl (zX7_canBeNamed _ _ _ _ _) vX7_canBeNamed lX7_259 rfl rfl xi0 rfl ?_
  refine q_if_ne (n := 10) (t := 12) dX7_calls_7 rfl (by decide) (fun h7 => ?_) (fun h7 => ?_)
  · have h7 := q_b1.mp h7
    have hv := h7.1
    have hA := hI0.aks hv
    have hk0 := hA.1
    have hvt := (hI0.tie hv).2.2
    have hmc := mem_C hn hvt
    have how := akL_ow (f := σ 2) (kd := σ 3) (a := σ 6 v) (g := mF (σ 6 v) (σ 7 v) (σ 1 1)) (nt := σ 1 1) (mC (σ 6 v) (σ 7 v) (σ 1 1)).toNat 0 A0 (by decide) (fun j x y => absurd y (by show ¬ j < 0; omega)) (fun j x y => hI0.mem hv ⟨x, by omega⟩)
    have ho2 := ak2_ow (A := (akA (σ 2) (σ 3) (σ 1 1) (σ 6 v) (σ 7 v))) (a := σ 6 v) (w := w) hk0.1
    refine q_aload_n (n := 13) dX7_calls_12 rfl rfl ?_
    refine q_iload_n (n := 14) dX7_calls_13 rfl rfl ?_
    refine q_iload_n (n := 15) dX7_calls_14 rfl rfl ?_
    refine q_v2 (n := 18) dX7_calls_15 rfl (zX7_askTracks v L _ _ hI0 hv) vX7_askTracks lX7_249 rfl rfl xi0 rfl (fun v15 σ15 h15 => ?_)
    obtain ⟨rfl, s1, rfl, hr⟩ := h15
    · skip
      refine q_istore (n := 20) dX7_calls_18 rfl (Nat.le_of_ble_eq_true rfl) (q_s1_s (q_s1_s (q_s1_s (q_s1_1 rfl)))) ?_
      refine q_iload (n := 22) dX7_calls_20 rfl rfl ?_
      refine q_iconst (n := 23) dX7_calls_22 rfl (k := ?_)
      refine q_icmp_le (n := 26) (t := 29) dX7_calls_23 rfl (by decide) (fun h23 => ?_) (fun h23 => ?_)
      · skip
        refine q_aload_n (n := 30) dX7_calls_29 rfl rfl ?_
        refine q_iload_n (n := 31) dX7_calls_30 rfl rfl ?_
        refine q_iload_n (n := 32) dX7_calls_31 rfl rfl ?_
        refine q_v2 (n := 35) dX7_calls_32 rfl (zX7_waysWith v w L _ _ hI0 hv hr) vX7_waysWith lX7_262 rfl rfl xi0 rfl (fun v32 σ32 h32 => ?_)
        obtain ⟨rfl, s2, rfl, hw1, hw2, hw3⟩ := h32
        · skip
          refine q_if_ne (n := 38) (t := 41) dX7_calls_35 rfl (by decide) (fun h35 => ?_) (fun h35 => ?_)
          · skip
            refine q_aload_n (n := 42) dX7_calls_41 rfl rfl ?_
            refine q_getR (n := 45) dX7_calls_42 rfl fX7_21 xi0 rfl ?_
            refine q_aload_n (n := 46) dX7_calls_45 rfl rfl ?_
            refine q_getR (n := 49) dX7_calls_46 rfl fX7_12 xi0 rfl ?_
            refine q_v1W (n := 52) dX7_calls_49 rfl (zO_draft _ _ hI.2.1) vX1_draft lX7_82 rfl rfl xi8 rfl (fun σ49 h49 => ?_)
            obtain ⟨σ1, rfl, hp⟩ := h49
            obtain ⟨hI1, he⟩ := IX_dr hI (by have := hI.2.1; omega) hp
            have hnx : 0 ≤ σ1 8 1 ∧ σ1 8 1 < 9 := hI1.2.1
            have hcg : 0 ≤ σ1 8 2 ∧ σ1 8 2 ≤ 8 := hI1.2.2.1
            have hn9 := hI1.1.2.1
            have hvv9 := hI1.1.2.2.1
            · skip
              refine q_iconst (n := 53) dX7_calls_52 rfl (k := ?_)
              refine q_istore (n := 55) dX7_calls_53 rfl (Nat.le_of_ble_eq_true rfl) (q_s1_s (q_s1_s (q_s1_s (q_s1_s (q_s1_1 rfl))))) ?_
              have hfc : (fCalls (σ 1 1) (σ 1 2) (σ 2) (σ 3) (σ 6) (σ 7) v L w) = (akA (σ 2) (σ 3) (σ 1 1) (σ 6 v) (σ 7 v)).2.2.2.2 := by
                unfold fCalls
                rw [if_neg (fun z => z h7), if_neg (by omega), if_neg h35]
              refine lpX7_cl s2 v L w ((akA (σ 2) (σ 3) (σ 1 1) (σ 6 v) (σ 7 v)).2.2.2.2) (akA (σ 2) (σ 3) (σ 1 1) (σ 6 v) (σ 7 v)).2.1 (wF L (ak2 (akA (σ 2) (σ 3) (σ 1 1) (σ 6 v) (σ 7 v)) (σ 6 v) w)).2.1 _ (by omega) (ag_trans (ag_mono hw2 ho2.2) ho2.1) (ag_mono (hw3 h35) ho2.2) (by omega) (fun j x y => by have hz : 0 ≤ (akA (σ 2) (σ 3) (σ 1 1) (σ 6 v) (σ 7 v)).2.1 j ∧ (akA (σ 2) (σ 3) (σ 1 1) (σ 6 v) (σ 7 v)).2.1 j < σ 1 1 := how j x y; omega) (akA (σ 2) (σ 3) (σ 1 1) (σ 6 v) (σ 7 v)).2.2.2.2.toNat 0 σ1 (by omega) (by decide) ?_
              refine q_aload_n (n := 97) dX7_calls_96 rfl rfl ?_
              refine q_getR (n := 100) dX7_calls_97 rfl fX7_21 xi0 rfl ?_
              refine q_iload (n := 102) dX7_calls_100 rfl rfl ?_
              refine q_v1D (n := 105) dX7_calls_102 rfl (zO_settle _ (clK (akA (σ 2) (σ 3) (σ 1 1) (σ 6 v) (σ 7 v)).2.1 (wF L (ak2 (akA (σ 2) (σ 3) (σ 1 1) (σ 6 v) (σ 7 v)) (σ 6 v) w)).2.1 (akA (σ 2) (σ 3) (σ 1 1) (σ 6 v) (σ 7 v)).2.2.2.2.toNat 0 σ1) _ (by rw [clK_o _ _ _ 8 (by decide)]; exact hnx) (by rw [clK_o _ _ _ 8 (by decide)]; exact hcg)) vX1_settle lX7_90 rfl rfl xi8 rfl ?_
              refine q_iret dX7_calls_105 rfl (fun _ => rfl) ?_
              refine ⟨by rw [hfc], Or.inr ⟨h7, h35, by omega, σ1, s2, hp, ?_⟩⟩
              unfold fin
              rw [if_pos (by dsimp only; omega)]
          · skip
            refine q_bipush (n := 40) dX7_calls_38 rfl (k := ?_)
            refine q_iret dX7_calls_40 rfl (fun _ => rfl) ?_
            have hfc : (fCalls (σ 1 1) (σ 1 2) (σ 2) (σ 3) (σ 6) (σ 7) v L w) = -2 := by
              unfold fCalls
              rw [if_neg (fun z => z h7), if_neg (by omega), if_pos h35]
            exact ⟨by rw [hfc], Or.inl ⟨by omega, _, rfl⟩⟩
      · skip
        refine q_bipush (n := 28) dX7_calls_26 rfl (k := ?_)
        refine q_iret dX7_calls_28 rfl (fun _ => rfl) ?_
        have hfc : (fCalls (σ 1 1) (σ 1 2) (σ 2) (σ 3) (σ 6) (σ 7) v L w) = -5 := by
          unfold fCalls
          rw [if_neg (fun z => z h7), if_pos (by omega)]
        exact ⟨by rw [hfc], Or.inl ⟨by omega, _, rfl⟩⟩
  · have h7 := q_b0.mp h7
    refine q_iconst (n := 11) dX7_calls_10 rfl (k := ?_)
    refine q_iret dX7_calls_11 rfl (fun _ => rfl) ?_
    have hfc : (fCalls (σ 1 1) (σ 1 2) (σ 2) (σ 3) (σ 6) (σ 7) v L w) = -1 := by
      unfold fCalls
      rw [if_pos h7]
    exact ⟨by rw [hfc], Or.inl ⟨by omega, _, rfl⟩⟩
