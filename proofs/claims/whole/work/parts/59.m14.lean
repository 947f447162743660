theorem cpy_up {σ : q_S} {c0 c1 sp dp i : Int} (h0 : 0 ≤ i) : q_up (q_cpy σ c0 sp c1 dp i) c1 (dp + i) (σ c0 (sp + i)) = q_cpy σ c0 sp c1 dp (i + 1) := by
  funext c x
  unfold q_up q_cpy
  by_cases e : c = c1
  · by_cases e2 : x = dp + i
    · rw [if_pos ⟨e, e2⟩, if_pos ⟨e, by omega, by omega⟩, e2]
      congr 1
      omega
    · rw [if_neg (fun z => e2 z.2)]
      by_cases e3 : dp ≤ x ∧ x < dp + i
      · rw [if_pos ⟨e, e3⟩, if_pos ⟨e, by omega, by omega⟩]
      · rw [if_neg (fun z => e3 z.2), if_neg (fun z => e3 ⟨z.2.1, by omega⟩)]
  · rw [if_neg (fun z => e z.1), if_neg (fun z => e z.1), if_neg (fun z => e z.1)]
theorem cpy_0 {σ : q_S} {c0 c1 sp dp : Int} : q_cpy σ c0 sp c1 dp 0 = σ := by
  funext c x
  unfold q_cpy
  rw [if_neg (by omega)]
theorem cpy_n {σ : q_S} {c0 c1 sp dp n c x : Int} (h : ¬ (c = c1 ∧ dp ≤ x ∧ x < dp + n)) : q_cpy σ c0 sp c1 dp n c x = σ c x := if_neg h
theorem cpy_s {σ : q_S} {c0 c1 sp dp n x : Int} (h : dp ≤ x ∧ x < dp + n) : q_cpy σ c0 sp c1 dp n c1 x = σ c0 (sp + (x - dp)) := if_pos ⟨rfl, h⟩
theorem om_cpy {σ s : q_S} {c0 c1 sp dp n : Int} (h0 : ∀ x, scM c0 x = false) (h1 : ∀ x, scM c1 x = false) : q_cpy (ovM σ s) c0 sp c1 dp n = ovM (q_cpy σ c0 sp c1 dp n) s := by
  funext c x
  by_cases e : c = c1 ∧ dp ≤ x ∧ x < dp + n
  · obtain ⟨rfl, e⟩ := e
    rw [cpy_s e, om_n (h0 _), om_n (h1 _), cpy_s e]
  · rw [cpy_n e]
    unfold ovM
    cases scM c x
    · exact (cpy_n e).symm
    · rfl
theorem om_cpyt {σ s : q_S} {c0 c1 sp dp n : Int} (h0 : ∀ x, scM c0 x = false) (h1 : ∀ x, scM c1 x = true) : q_cpy (ovM σ s) c0 sp c1 dp n = ovM σ (fun c x => if c = c1 ∧ dp ≤ x ∧ x < dp + n then σ c0 (sp + (x - dp)) else s c x) := by
  funext c x
  by_cases e : c = c1 ∧ dp ≤ x ∧ x < dp + n
  · obtain ⟨rfl, e⟩ := e
    rw [cpy_s e, om_n (h0 _), om_s (h1 _), if_pos ⟨rfl, e⟩]
  · rw [cpy_n e]
    unfold ovM
    cases scM c x
    · rfl
    · exact (if_neg e).symm
theorem om_cpyf {σ s : q_S} {c0 c1 sp dp n : Int} (h0 : ∀ x, scM c0 x = true) (h1 : ∀ x, scM c1 x = false) : q_cpy (ovM σ s) c0 sp c1 dp n = ovM (fun c x => if c = c1 ∧ dp ≤ x ∧ x < dp + n then s c0 (sp + (x - dp)) else σ c x) s := by
  funext c x
  by_cases e : c = c1 ∧ dp ≤ x ∧ x < dp + n
  · obtain ⟨rfl, e⟩ := e
    rw [cpy_s e, om_s (h0 _), om_n (h1 _), if_pos ⟨rfl, e⟩]
  · rw [cpy_n e]
    unfold ovM
    cases scM c x
    · exact (if_neg e).symm
    · rfl
set_option maxRecDepth 100000 in
theorem lpX8_cp_1_8 (σ : q_S) (p d : Int) (hp : (0 ≤ p ∧ p + 80 ≤ 80)) (hq : (0 ≤ d ∧ d + 80 ≤ 640)) : ∀ (n : Nat) (i : Int), (n : Int) + i = 80 → 0 ≤ i → q_WP mX8_copies shM 3 [some (.inr (.inr 1)), some (.inl p), some (.inr (.inr 8)), some (.inl d), some (.inl i)] [] (q_cpy σ 1 p 8 d i) (fun r σ' => r = none ∧ σ' = q_cpy σ 1 p 8 d 80) := by
  intro n
  induction n with
  | zero =>
    intro i hi h0
    obtain rfl : i = 80 := by omega
    refine q_iload (n := 5) dX8_copies_3 rfl rfl ?_
    refine q_bipush (n := 7) dX8_copies_5 rfl (k := ?_)
    refine q_icmp_ge (n := 10) (t := 28) dX8_copies_7 rfl (by decide) (fun h7 => ?_) (fun h7 => ?_)
    · skip
      refine q_vret dX8_copies_28 rfl ?_
      exact ⟨rfl, rfl⟩
    · exact absurd h7 (by omega)
  | succ n ih =>
    intro i hi h0
    refine q_iload (n := 5) dX8_copies_3 rfl rfl ?_
    refine q_bipush (n := 7) dX8_copies_5 rfl (k := ?_)
    refine q_icmp_ge (n := 10) (t := 28) dX8_copies_7 rfl (by decide) (fun h7 => ?_) (fun h7 => ?_)
    · exact absurd h7 (by omega)
    · skip
      refine q_aload_n (n := 11) dX8_copies_10 rfl rfl ?_
      refine q_iload_n (n := 12) dX8_copies_11 rfl rfl ?_
      refine q_iload (n := 14) dX8_copies_12 rfl rfl ?_
      refine q_iaddS (n := 15) dX8_copies_14 rfl ⟨by omega, by omega⟩ ?_
      refine q_aload_n (n := 16) dX8_copies_15 rfl rfl ?_
      refine q_iload_n (n := 17) dX8_copies_16 rfl rfl ?_
      refine q_iload (n := 19) dX8_copies_17 rfl rfl ?_
      refine q_iaddS (n := 20) dX8_copies_19 rfl ⟨by omega, by omega⟩ ?_
      refine q_ialoadE (σ 1 (p + i)) (n := 21) dX8_copies_20 rfl mi1 ⟨by omega, by omega⟩ (cpy_n (by omega)) ?_
      refine q_iastore (n := 22) dX8_copies_21 rfl mi8 ⟨by omega, by omega⟩ ?_
      refine q_iinc (n := 25) dX8_copies_22 rfl (Nat.le_of_ble_eq_true rfl) rfl (q_nwid ⟨by omega, by omega⟩) (q_s1_s (q_s1_s (q_s1_s (q_s1_1 rfl)))) ?_
      refine q_go (t := 3) dX8_copies_25 (by decide) ?_
      rw [cpy_up h0]
      exact ih (i + 1) (by omega) (by omega)
set_option maxRecDepth 100000 in
theorem zX8_copies_1_8 (p d : Int) (σ : q_S) (hp : (0 ≤ p ∧ p + 80 ≤ 80)) (hq : (0 ≤ d ∧ d + 80 ≤ 640)) : q_Ct mX8_copies shM [.inr (.inr 1), .inl p, .inr (.inr 8), .inl d] σ (fun r σ' => r = none ∧ σ' = q_cpy σ 1 p 8 d 80) := by
  refine q_ct 1 (by decide) rfl rfl ?_
  show q_WP mX8_copies shM 0 [some (.inr (.inr 1)), some (.inl p), some (.inr (.inr 8)), some (.inl d), none] [] σ _
  refine q_iconst (n := 1) dX8_copies_0 rfl (k := ?_)
  refine q_istore (n := 3) dX8_copies_1 rfl (Nat.le_of_ble_eq_true rfl) (q_s1_s (q_s1_s (q_s1_s (q_s1_1 rfl)))) ?_
  have h := lpX8_cp_1_8 σ p d hp hq 80 0 (by decide) (by decide)
  rw [cpy_0] at h
  exact h
set_option maxRecDepth 100000 in
theorem lpX8_cp_8_8 (σ : q_S) (p d : Int) (hp : (0 ≤ p ∧ p + 80 ≤ 640)) (hq : (0 ≤ d ∧ d + 80 ≤ 640)) (hd : d + 80 ≤ p) : ∀ (n : Nat) (i : Int), (n : Int) + i = 80 → 0 ≤ i → q_WP mX8_copies shM 3 [some (.inr (.inr 8)), some (.inl p), some (.inr (.inr 8)), some (.inl d), some (.inl i)] [] (q_cpy σ 8 p 8 d i) (fun r σ' => r = none ∧ σ' = q_cpy σ 8 p 8 d 80) := by
  intro n
  induction n with
  | zero =>
    intro i hi h0
    obtain rfl : i = 80 := by omega
    refine q_iload (n := 5) dX8_copies_3 rfl rfl ?_
    refine q_bipush (n := 7) dX8_copies_5 rfl (k := ?_)
    refine q_icmp_ge (n := 10) (t := 28) dX8_copies_7 rfl (by decide) (fun h7 => ?_) (fun h7 => ?_)
    · skip
      refine q_vret dX8_copies_28 rfl ?_
      exact ⟨rfl, rfl⟩
    · exact absurd h7 (by omega)
  | succ n ih =>
    intro i hi h0
    refine q_iload (n := 5) dX8_copies_3 rfl rfl ?_
    refine q_bipush (n := 7) dX8_copies_5 rfl (k := ?_)
    refine q_icmp_ge (n := 10) (t := 28) dX8_copies_7 rfl (by decide) (fun h7 => ?_) (fun h7 => ?_)
    · exact absurd h7 (by omega)
    · skip
      refine q_aload_n (n := 11) dX8_copies_10 rfl rfl ?_
      refine q_iload_n (n := 12) dX8_copies_11 rfl rfl ?_
      refine q_iload (n := 14) dX8_copies_12 rfl rfl ?_
      refine q_iaddS (n := 15) dX8_copies_14 rfl ⟨by omega, by omega⟩ ?_
      refine q_aload_n (n := 16) dX8_copies_15 rfl rfl ?_
      refine q_iload_n (n := 17) dX8_copies_16 rfl rfl ?_
      refine q_iload (n := 19) dX8_copies_17 rfl rfl ?_
      refine q_iaddS (n := 20) dX8_copies_19 rfl ⟨by omega, by omega⟩ ?_
      refine q_ialoadE (σ 8 (p + i)) (n := 21) dX8_copies_20 rfl mi8 ⟨by omega, by omega⟩ (cpy_n (by omega)) ?_
      refine q_iastore (n := 22) dX8_copies_21 rfl mi8 ⟨by omega, by omega⟩ ?_
      refine q_iinc (n := 25) dX8_copies_22 rfl (Nat.le_of_ble_eq_true rfl) rfl (q_nwid ⟨by omega, by omega⟩) (q_s1_s (q_s1_s (q_s1_s (q_s1_1 rfl)))) ?_
      refine q_go (t := 3) dX8_copies_25 (by decide) ?_
      rw [cpy_up h0]
      exact ih (i + 1) (by omega) (by omega)
set_option maxRecDepth 100000 in
theorem zX8_copies_8_8 (p d : Int) (σ : q_S) (hp : (0 ≤ p ∧ p + 80 ≤ 640)) (hq : (0 ≤ d ∧ d + 80 ≤ 640)) (hd : d + 80 ≤ p) : q_Ct mX8_copies shM [.inr (.inr 8), .inl p, .inr (.inr 8), .inl d] σ (fun r σ' => r = none ∧ σ' = q_cpy σ 8 p 8 d 80) := by
  refine q_ct 1 (by decide) rfl rfl ?_
  show q_WP mX8_copies shM 0 [some (.inr (.inr 8)), some (.inl p), some (.inr (.inr 8)), some (.inl d), none] [] σ _
  refine q_iconst (n := 1) dX8_copies_0 rfl (k := ?_)
  refine q_istore (n := 3) dX8_copies_1 rfl (Nat.le_of_ble_eq_true rfl) (q_s1_s (q_s1_s (q_s1_s (q_s1_1 rfl)))) ?_
  have h := lpX8_cp_8_8 σ p d hp hq hd 80 0 (by decide) (by decide)
  rw [cpy_0] at h
  exact h
set_option maxRecDepth 100000 in
theorem lpX8_cp_8_1 (σ : q_S) (p d : Int) (hp : (0 ≤ p ∧ p + 80 ≤ 640)) (hq : (0 ≤ d ∧ d + 80 ≤ 80)) : ∀ (n : Nat) (i : Int), (n : Int) + i = 80 → 0 ≤ i → q_WP mX8_copies shM 3 [some (.inr (.inr 8)), some (.inl p), some (.inr (.inr 1)), some (.inl d), some (.inl i)] [] (q_cpy σ 8 p 1 d i) (fun r σ' => r = none ∧ σ' = q_cpy σ 8 p 1 d 80) := by
  intro n
  induction n with
  | zero =>
    intro i hi h0
    obtain rfl : i = 80 := by omega
    refine q_iload (n := 5) dX8_copies_3 rfl rfl ?_
    refine q_bipush (n := 7) dX8_copies_5 rfl (k := ?_)
    refine q_icmp_ge (n := 10) (t := 28) dX8_copies_7 rfl (by decide) (fun h7 => ?_) (fun h7 => ?_)
    · skip
      refine q_vret dX8_copies_28 rfl ?_
      exact ⟨rfl, rfl⟩
    · exact absurd h7 (by omega)
  | succ n ih =>
    intro i hi h0
    refine q_iload (n := 5) dX8_copies_3 rfl rfl ?_
    refine q_bipush (n := 7) dX8_copies_5 rfl (k := ?_)
    refine q_icmp_ge (n := 10) (t := 28) dX8_copies_7 rfl (by decide) (fun h7 => ?_) (fun h7 => ?_)
    · exact absurd h7 (by omega)
    · skip
      refine q_aload_n (n := 11) dX8_copies_10 rfl rfl ?_
      refine q_iload_n (n := 12) dX8_copies_11 rfl rfl ?_
      refine q_iload (n := 14) dX8_copies_12 rfl rfl ?_
      refine q_iaddS (n := 15) dX8_copies_14 rfl ⟨by omega, by omega⟩ ?_
      refine q_aload_n (n := 16) dX8_copies_15 rfl rfl ?_
      refine q_iload_n (n := 17) dX8_copies_16 rfl rfl ?_
      refine q_iload (n := 19) dX8_copies_17 rfl rfl ?_
      refine q_iaddS (n := 20) dX8_copies_19 rfl ⟨by omega, by omega⟩ ?_
      refine q_ialoadE (σ 8 (p + i)) (n := 21) dX8_copies_20 rfl mi8 ⟨by omega, by omega⟩ (cpy_n (by omega)) ?_
      refine q_iastore (n := 22) dX8_copies_21 rfl mi1 ⟨by omega, by omega⟩ ?_
      refine q_iinc (n := 25) dX8_copies_22 rfl (Nat.le_of_ble_eq_true rfl) rfl (q_nwid ⟨by omega, by omega⟩) (q_s1_s (q_s1_s (q_s1_s (q_s1_1 rfl)))) ?_
      refine q_go (t := 3) dX8_copies_25 (by decide) ?_
      rw [cpy_up h0]
      exact ih (i + 1) (by omega) (by omega)
set_option maxRecDepth 100000 in
theorem zX8_copies_8_1 (p d : Int) (σ : q_S) (hp : (0 ≤ p ∧ p + 80 ≤ 640)) (hq : (0 ≤ d ∧ d + 80 ≤ 80)) : q_Ct mX8_copies shM [.inr (.inr 8), .inl p, .inr (.inr 1), .inl d] σ (fun r σ' => r = none ∧ σ' = q_cpy σ 8 p 1 d 80) := by
  refine q_ct 1 (by decide) rfl rfl ?_
  show q_WP mX8_copies shM 0 [some (.inr (.inr 8)), some (.inl p), some (.inr (.inr 1)), some (.inl d), none] [] σ _
  refine q_iconst (n := 1) dX8_copies_0 rfl (k := ?_)
  refine q_istore (n := 3) dX8_copies_1 rfl (Nat.le_of_ble_eq_true rfl) (q_s1_s (q_s1_s (q_s1_s (q_s1_1 rfl)))) ?_
  have h := lpX8_cp_8_1 σ p d hp hq 80 0 (by decide) (by decide)
  rw [cpy_0] at h
  exact h
set_option maxRecDepth 100000 in
theorem lpX8_cp_1_16 (σ : q_S) (p d : Int) (hp : (0 ≤ p ∧ p + 80 ≤ 80)) (hq : (0 ≤ d ∧ d + 80 ≤ 80)) : ∀ (n : Nat) (i : Int), (n : Int) + i = 80 → 0 ≤ i → q_WP mX8_copies shM 3 [some (.inr (.inr 1)), some (.inl p), some (.inr (.inr 16)), some (.inl d), some (.inl i)] [] (q_cpy σ 1 p 16 d i) (fun r σ' => r = none ∧ σ' = q_cpy σ 1 p 16 d 80) := by
  intro n
  induction n with
  | zero =>
    intro i hi h0
    obtain rfl : i = 80 := by omega
    refine q_iload (n := 5) dX8_copies_3 rfl rfl ?_
    refine q_bipush (n := 7) dX8_copies_5 rfl (k := ?_)
    refine q_icmp_ge (n := 10) (t := 28) dX8_copies_7 rfl (by decide) (fun h7 => ?_) (fun h7 => ?_)
    · skip
      refine q_vret dX8_copies_28 rfl ?_
      exact ⟨rfl, rfl⟩
    · exact absurd h7 (by omega)
  | succ n ih =>
    intro i hi h0
    refine q_iload (n := 5) dX8_copies_3 rfl rfl ?_
    refine q_bipush (n := 7) dX8_copies_5 rfl (k := ?_)
    refine q_icmp_ge (n := 10) (t := 28) dX8_copies_7 rfl (by decide) (fun h7 => ?_) (fun h7 => ?_)
    · exact absurd h7 (by omega)
    · skip
      refine q_aload_n (n := 11) dX8_copies_10 rfl rfl ?_
      refine q_iload_n (n := 12) dX8_copies_11 rfl rfl ?_
      refine q_iload (n := 14) dX8_copies_12 rfl rfl ?_
      refine q_iaddS (n := 15) dX8_copies_14 rfl ⟨by omega, by omega⟩ ?_
      refine q_aload_n (n := 16) dX8_copies_15 rfl rfl ?_
      refine q_iload_n (n := 17) dX8_copies_16 rfl rfl ?_
      refine q_iload (n := 19) dX8_copies_17 rfl rfl ?_
      refine q_iaddS (n := 20) dX8_copies_19 rfl ⟨by omega, by omega⟩ ?_
      refine q_ialoadE (σ 1 (p + i)) (n := 21) dX8_copies_20 rfl mi1 ⟨by omega, by omega⟩ (cpy_n (by omega)) ?_
      refine q_iastore (n := 22) dX8_copies_21 rfl mi16 ⟨by omega, by omega⟩ ?_
      refine q_iinc (n := 25) dX8_copies_22 rfl (Nat.le_of_ble_eq_true rfl) rfl (q_nwid ⟨by omega, by omega⟩) (q_s1_s (q_s1_s (q_s1_s (q_s1_1 rfl)))) ?_
      refine q_go (t := 3) dX8_copies_25 (by decide) ?_
      rw [cpy_up h0]
      exact ih (i + 1) (by omega) (by omega)
set_option maxRecDepth 100000 in
theorem zX8_copies_1_16 (p d : Int) (σ : q_S) (hp : (0 ≤ p ∧ p + 80 ≤ 80)) (hq : (0 ≤ d ∧ d + 80 ≤ 80)) : q_Ct mX8_copies shM [.inr (.inr 1), .inl p, .inr (.inr 16), .inl d] σ (fun r σ' => r = none ∧ σ' = q_cpy σ 1 p 16 d 80) := by
  refine q_ct 1 (by decide) rfl rfl ?_
  show q_WP mX8_copies shM 0 [some (.inr (.inr 1)), some (.inl p), some (.inr (.inr 16)), some (.inl d), none] [] σ _
  refine q_iconst (n := 1) dX8_copies_0 rfl (k := ?_)
  refine q_istore (n := 3) dX8_copies_1 rfl (Nat.le_of_ble_eq_true rfl) (q_s1_s (q_s1_s (q_s1_s (q_s1_1 rfl)))) ?_
  have h := lpX8_cp_1_16 σ p d hp hq 80 0 (by decide) (by decide)
  rw [cpy_0] at h
  exact h
set_option maxRecDepth 100000 in
theorem lpX8_cp_16_1 (σ : q_S) (p d : Int) (hp : (0 ≤ p ∧ p + 80 ≤ 80)) (hq : (0 ≤ d ∧ d + 80 ≤ 80)) : ∀ (n : Nat) (i : Int), (n : Int) + i = 80 → 0 ≤ i → q_WP mX8_copies shM 3 [some (.inr (.inr 16)), some (.inl p), some (.inr (.inr 1)), some (.inl d), some (.inl i)] [] (q_cpy σ 16 p 1 d i) (fun r σ' => r = none ∧ σ' = q_cpy σ 16 p 1 d 80) := by
  intro n
  induction n with
  | zero =>
    intro i hi h0
    obtain rfl : i = 80 := by omega
    refine q_iload (n := 5) dX8_copies_3 rfl rfl ?_
    refine q_bipush (n := 7) dX8_copies_5 rfl (k := ?_)
    refine q_icmp_ge (n := 10) (t := 28) dX8_copies_7 rfl (by decide) (fun h7 => ?_) (fun h7 => ?_)
    · skip
      refine q_vret dX8_copies_28 rfl ?_
      exact ⟨rfl, rfl⟩
    · exact absurd h7 (by omega)
  | succ n ih =>
    intro i hi h0
    refine q_iload (n := 5) dX8_copies_3 rfl rfl ?_
    refine q_bipush (n := 7) dX8_copies_5 rfl (k := ?_)
    refine q_icmp_ge (n := 10) (t := 28) dX8_copies_7 rfl (by decide) (fun h7 => ?_) (fun h7 => ?_)
    · exact absurd h7 (by omega)
    · skip
      refine q_aload_n (n := 11) dX8_copies_10 rfl rfl ?_
      refine q_iload_n (n := 12) dX8_copies_11 rfl rfl ?_
      refine q_iload (n := 14) dX8_copies_12 rfl rfl ?_
      refine q_iaddS (n := 15) dX8_copies_14 rfl ⟨by omega, by omega⟩ ?_
      refine q_aload_n (n := 16) dX8_copies_15 rfl rfl ?_
      refine q_iload_n (n := 17) dX8_copies_16 rfl rfl ?_
      refine q_iload (n := 19) dX8_copies_17 rfl rfl ?_
      refine q_iaddS (n := 20) dX8_copies_19 rfl ⟨by omega, by omega⟩ ?_
      refine q_ialoadE (σ 16 (p + i)) (n := 21) dX8_copies_20 rfl mi16 ⟨by omega, by omega⟩ (cpy_n (by omega)) ?_
      refine q_iastore (n := 22) dX8_copies_21 rfl mi1 ⟨by omega, by omega⟩ ?_
      refine q_iinc (n := 25) dX8_copies_22 rfl (Nat.le_of_ble_eq_true rfl) rfl (q_nwid ⟨by omega, by omega⟩) (q_s1_s (q_s1_s (q_s1_s (q_s1_1 rfl)))) ?_
      refine q_go (t := 3) dX8_copies_25 (by decide) ?_
      rw [cpy_up h0]
      exact ih (i + 1) (by omega) (by omega)
set_option maxRecDepth 100000 in
theorem zX8_copies_16_1 (p d : Int) (σ : q_S) (hp : (0 ≤ p ∧ p + 80 ≤ 80)) (hq : (0 ≤ d ∧ d + 80 ≤ 80)) : q_Ct mX8_copies shM [.inr (.inr 16), .inl p, .inr (.inr 1), .inl d] σ (fun r σ' => r = none ∧ σ' = q_cpy σ 16 p 1 d 80) := by
  refine q_ct 1 (by decide) rfl rfl ?_
  show q_WP mX8_copies shM 0 [some (.inr (.inr 16)), some (.inl p), some (.inr (.inr 1)), some (.inl d), none] [] σ _
  refine q_iconst (n := 1) dX8_copies_0 rfl (k := ?_)
  refine q_istore (n := 3) dX8_copies_1 rfl (Nat.le_of_ble_eq_true rfl) (q_s1_s (q_s1_s (q_s1_s (q_s1_1 rfl)))) ?_
  have h := lpX8_cp_16_1 σ p d hp hq 80 0 (by decide) (by decide)
  rw [cpy_0] at h
  exact h
set_option maxRecDepth 100000 in
theorem lpX8_cp_1_21 (σ : q_S) (p d : Int) (hp : (0 ≤ p ∧ p + 80 ≤ 80)) (hq : (0 ≤ d ∧ d + 80 ≤ 80)) : ∀ (n : Nat) (i : Int), (n : Int) + i = 80 → 0 ≤ i → q_WP mX8_copies shM 3 [some (.inr (.inr 1)), some (.inl p), some (.inr (.inr 21)), some (.inl d), some (.inl i)] [] (q_cpy σ 1 p 21 d i) (fun r σ' => r = none ∧ σ' = q_cpy σ 1 p 21 d 80) := by
  intro n
  induction n with
  | zero =>
    intro i hi h0
    obtain rfl : i = 80 := by omega
    refine q_iload (n := 5) dX8_copies_3 rfl rfl ?_
    refine q_bipush (n := 7) dX8_copies_5 rfl (k := ?_)
    refine q_icmp_ge (n := 10) (t := 28) dX8_copies_7 rfl (by decide) (fun h7 => ?_) (fun h7 => ?_)
    · skip
      refine q_vret dX8_copies_28 rfl ?_
      exact ⟨rfl, rfl⟩
    · exact absurd h7 (by omega)
  | succ n ih =>
    intro i hi h0
    refine q_iload (n := 5) dX8_copies_3 rfl rfl ?_
    refine q_bipush (n := 7) dX8_copies_5 rfl (k := ?_)
    refine q_icmp_ge (n := 10) (t := 28) dX8_copies_7 rfl (by decide) (fun h7 => ?_) (fun h7 => ?_)
    · exact absurd h7 (by omega)
    · skip
      refine q_aload_n (n := 11) dX8_copies_10 rfl rfl ?_
      refine q_iload_n (n := 12) dX8_copies_11 rfl rfl ?_
      refine q_iload (n := 14) dX8_copies_12 rfl rfl ?_
      refine q_iaddS (n := 15) dX8_copies_14 rfl ⟨by omega, by omega⟩ ?_
      refine q_aload_n (n := 16) dX8_copies_15 rfl rfl ?_
      refine q_iload_n (n := 17) dX8_copies_16 rfl rfl ?_
      refine q_iload (n := 19) dX8_copies_17 rfl rfl ?_
      refine q_iaddS (n := 20) dX8_copies_19 rfl ⟨by omega, by omega⟩ ?_
      refine q_ialoadE (σ 1 (p + i)) (n := 21) dX8_copies_20 rfl mi1 ⟨by omega, by omega⟩ (cpy_n (by omega)) ?_
      refine q_iastore (n := 22) dX8_copies_21 rfl mi21 ⟨by omega, by omega⟩ ?_
      refine q_iinc (n := 25) dX8_copies_22 rfl (Nat.le_of_ble_eq_true rfl) rfl (q_nwid ⟨by omega, by omega⟩) (q_s1_s (q_s1_s (q_s1_s (q_s1_1 rfl)))) ?_
      refine q_go (t := 3) dX8_copies_25 (by decide) ?_
      rw [cpy_up h0]
      exact ih (i + 1) (by omega) (by omega)
set_option maxRecDepth 100000 in
theorem zX8_copies_1_21 (p d : Int) (σ : q_S) (hp : (0 ≤ p ∧ p + 80 ≤ 80)) (hq : (0 ≤ d ∧ d + 80 ≤ 80)) : q_Ct mX8_copies shM [.inr (.inr 1), .inl p, .inr (.inr 21), .inl d] σ (fun r σ' => r = none ∧ σ' = q_cpy σ 1 p 21 d 80) := by
  refine q_ct 1 (by decide) rfl rfl ?_
  show q_WP mX8_copies shM 0 [some (.inr (.inr 1)), some (.inl p), some (.inr (.inr 21)), some (.inl d), none] [] σ _
  refine q_iconst (n := 1) dX8_copies_0 rfl (k := ?_)
  refine q_istore (n := 3) dX8_copies_1 rfl (Nat.le_of_ble_eq_true rfl) (q_s1_s (q_s1_s (q_s1_s (q_s1_1 rfl)))) ?_
  have h := lpX8_cp_1_21 σ p d hp hq 80 0 (by decide) (by decide)
  rw [cpy_0] at h
  exact h
set_option maxRecDepth 100000 in
theorem lpX8_cp_21_1 (σ : q_S) (p d : Int) (hp : (0 ≤ p ∧ p + 80 ≤ 80)) (hq : (0 ≤ d ∧ d + 80 ≤ 80)) : ∀ (n : Nat) (i : Int), (n : Int) + i = 80 → 0 ≤ i → q_WP mX8_copies shM 3 [some (.inr (.inr 21)), some (.inl p), some (.inr (.inr 1)), some (.inl d), some (.inl i)] [] (q_cpy σ 21 p 1 d i) (fun r σ' => r = none ∧ σ' = q_cpy σ 21 p 1 d 80) := by
  intro n
  induction n with
  | zero =>
    intro i hi h0
    obtain rfl : i = 80 := by omega
    refine q_iload (n := 5) dX8_copies_3 rfl rfl ?_
    refine q_bipush (n := 7) dX8_copies_5 rfl (k := ?_)
    refine q_icmp_ge (n := 10) (t := 28) dX8_copies_7 rfl (by decide) (fun h7 => ?_) (fun h7 => ?_)
    · skip
      refine q_vret dX8_copies_28 rfl ?_
      exact ⟨rfl, rfl⟩
    · exact absurd h7 (by omega)
  | succ n ih =>
    intro i hi h0
    refine q_iload (n := 5) dX8_copies_3 rfl rfl ?_
    refine q_bipush (n := 7) dX8_copies_5 rfl (k := ?_)
    refine q_icmp_ge (n := 10) (t := 28) dX8_copies_7 rfl (by decide) (fun h7 => ?_) (fun h7 => ?_)
    · exact absurd h7 (by omega)
    · skip
      refine q_aload_n (n := 11) dX8_copies_10 rfl rfl ?_
      refine q_iload_n (n := 12) dX8_copies_11 rfl rfl ?_
      refine q_iload (n := 14) dX8_copies_12 rfl rfl ?_
      refine q_iaddS (n := 15) dX8_copies_14 rfl ⟨by omega, by omega⟩ ?_
      refine q_aload_n (n := 16) dX8_copies_15 rfl rfl ?_
      refine q_iload_n (n := 17) dX8_copies_16 rfl rfl ?_
      refine q_iload (n := 19) dX8_copies_17 rfl rfl ?_
      refine q_iaddS (n := 20) dX8_copies_19 rfl ⟨by omega, by omega⟩ ?_
      refine q_ialoadE (σ 21 (p + i)) (n := 21) dX8_copies_20 rfl mi21 ⟨by omega, by omega⟩ (cpy_n (by omega)) ?_
      refine q_iastore (n := 22) dX8_copies_21 rfl mi1 ⟨by omega, by omega⟩ ?_
      refine q_iinc (n := 25) dX8_copies_22 rfl (Nat.le_of_ble_eq_true rfl) rfl (q_nwid ⟨by omega, by omega⟩) (q_s1_s (q_s1_s (q_s1_s (q_s1_1 rfl)))) ?_
      refine q_go (t := 3) dX8_copies_25 (by decide) ?_
      rw [cpy_up h0]
      exact ih (i + 1) (by omega) (by omega)
set_option maxRecDepth 100000 in
theorem zX8_copies_21_1 (p d : Int) (σ : q_S) (hp : (0 ≤ p ∧ p + 80 ≤ 80)) (hq : (0 ≤ d ∧ d + 80 ≤ 80)) : q_Ct mX8_copies shM [.inr (.inr 21), .inl p, .inr (.inr 1), .inl d] σ (fun r σ' => r = none ∧ σ' = q_cpy σ 21 p 1 d 80) := by
  refine q_ct 1 (by decide) rfl rfl ?_
  show q_WP mX8_copies shM 0 [some (.inr (.inr 21)), some (.inl p), some (.inr (.inr 1)), some (.inl d), none] [] σ _
  refine q_iconst (n := 1) dX8_copies_0 rfl (k := ?_)
  refine q_istore (n := 3) dX8_copies_1 rfl (Nat.le_of_ble_eq_true rfl) (q_s1_s (q_s1_s (q_s1_s (q_s1_1 rfl)))) ?_
  have h := lpX8_cp_21_1 σ p d hp hq 80 0 (by decide) (by decide)
  rw [cpy_0] at h
  exact h
/-- the blocks of what was, one on -/
def shf (σ : q_S) : Nat → Int → q_S
  | 0, _ => σ
  | n + 1, i => shf (q_cpy σ 8 (80 * i) 8 (80 * (i - 1)) 80) n (i + 1)
theorem shf_o {c x : Int} (hc : c ≠ 8) : ∀ (n : Nat) (i : Int) (σ : q_S), shf σ n i c x = σ c x := by
  intro n
  induction n with
  | zero => intro i σ; rfl
  | succ n ih =>
    intro i σ
    rw [shf, ih, cpy_n (fun z => hc z.1)]
theorem shf_8 : ∀ (n : Nat) (i : Int) (σ : q_S) (x : Int), 1 ≤ i → shf σ n i 8 x = if 80 * (i - 1) ≤ x ∧ x < 80 * (i - 1) + 80 * n then σ 8 (x + 80) else σ 8 x := by
  intro n
  induction n with
  | zero =>
    intro i σ x hi
    rw [if_neg (by omega)]
    rfl
  | succ n ih =>
    intro i σ x hi
    rw [shf, ih (i + 1) _ x (by omega)]
    by_cases e : 80 * (i + 1 - 1) ≤ x ∧ x < 80 * (i + 1 - 1) + 80 * n
    · rw [if_pos e, if_pos (by omega), cpy_n (by omega)]
    · rw [if_neg e]
      by_cases e2 : 80 * (i - 1) ≤ x ∧ x < 80 * (i - 1) + 80
      · rw [if_pos (by omega), cpy_s e2]
        congr 1
        omega
      · rw [if_neg (by omega), cpy_n (fun z => e2 z.2)]
/-- the picture kept -/
def kpM (σ : q_S) : q_S := if σ 0 9 = 8 then q_up (q_cpy (q_up (shf σ 7 1) 0 9 7) 1 0 8 560 80) 0 9 8 else q_up (q_cpy σ 1 0 8 (80 * σ 0 9) 80) 0 9 (σ 0 9 + 1)
set_option maxRecDepth 100000 in
theorem lpX8_kp : ∀ (n : Nat) (i : Int) (σ s : q_S) (Q : Option q_V → q_S → Prop), (n : Int) + i = 8 → 1 ≤ i → (∀ o1, q_WP mX8_keeps shM 44 [some (.inr (.inr 0)), o1] [] (ovM (shf σ n i) s) Q) → q_WP mX8_keeps shM 11 [some (.inr (.inr 0)), some (.inl i)] [] (ovM σ s) Q := by
  intro n
  induction n with
  | zero =>
    intro i σ s Q hi h0 hQ
    refine q_iload_n (n := 12) dX8_keeps_11 rfl rfl ?_
    refine q_bipush (n := 14) dX8_keeps_12 rfl (k := ?_)
    refine q_icmp_ge (n := 17) (t := 44) dX8_keeps_14 rfl (by decide) (fun h14 => ?_) (fun h14 => ?_)
    · skip
      exact hQ _
    · exact absurd h14 (by omega)
  | succ n ih =>
    intro i σ s Q hi h0 hQ
    refine q_iload_n (n := 12) dX8_keeps_11 rfl rfl ?_
    refine q_bipush (n := 14) dX8_keeps_12 rfl (k := ?_)
    refine q_icmp_ge (n := 17) (t := 44) dX8_keeps_14 rfl (by decide) (fun h14 => ?_) (fun h14 => ?_)
    · exact absurd h14 (by omega)
    · skip
      refine q_aload_n (n := 18) dX8_keeps_17 rfl rfl ?_
      refine q_getR (n := 21) dX8_keeps_18 rfl fX8_45 mi0 rfl ?_
      refine q_bipush (n := 23) dX8_keeps_21 rfl (k := ?_)
      refine q_iload_n (n := 24) dX8_keeps_23 rfl rfl ?_
      refine q_imulS (n := 25) dX8_keeps_24 rfl ⟨by omega, by omega⟩ ?_
      refine q_aload_n (n := 26) dX8_keeps_25 rfl rfl ?_
      refine q_getR (n := 29) dX8_keeps_26 rfl fX8_45 mi0 rfl ?_
      refine q_bipush (n := 31) dX8_keeps_29 rfl (k := ?_)
      refine q_iload_n (n := 32) dX8_keeps_31 rfl rfl ?_
      refine q_iconst (n := 33) dX8_keeps_32 rfl (k := ?_)
      refine q_isubS (n := 34) dX8_keeps_33 rfl ⟨by omega, by omega⟩ ?_
      refine q_imulS (n := 35) dX8_keeps_34 rfl ⟨by omega, by omega⟩ ?_
      refine q_c4U (n := 38) dX8_keeps_35 rfl (zX8_copies_8_8 _ _ _ ⟨by omega, by omega⟩ ⟨by omega, by omega⟩ (by omega)) vX8_copies lX8_97 rfl rfl ?_
      rw [om_cpy (fun _ => rfl) (fun _ => rfl)]
      refine q_iinc (n := 41) dX8_keeps_38 rfl (Nat.le_of_ble_eq_true rfl) rfl (q_nwid ⟨by omega, by omega⟩) (q_s1_1 rfl) ?_
      refine q_go (t := 11) dX8_keeps_41 (by decide) ?_
      exact ih (i + 1) _ s Q (by omega) (by omega) hQ
set_option maxRecDepth 100000 in
theorem lpX8_k2 (σ s : q_S) (o1 : Option q_V) (k : Int) (hk : σ 0 9 = k) (h : 0 ≤ k ∧ k ≤ 7) : q_WP mX8_keeps shM 54 [some (.inr (.inr 0)), o1] [] (ovM σ s) (fun r σ' => r = none ∧ σ' = ovM (q_up (q_cpy σ 1 0 8 (80 * k) 80) 0 9 (k + 1)) s) := by
  skip
  refine q_aload_n (n := 55) dX8_keeps_54 rfl rfl ?_
  refine q_getR (n := 58) dX8_keeps_55 rfl fX8_23 mi0 rfl ?_
  refine q_iconst (n := 59) dX8_keeps_58 rfl (k := ?_)
  refine q_aload_n (n := 60) dX8_keeps_59 rfl rfl ?_
  refine q_getR (n := 63) dX8_keeps_60 rfl fX8_45 mi0 rfl ?_
  refine q_bipush (n := 65) dX8_keeps_63 rfl (k := ?_)
  refine q_aload_n (n := 66) dX8_keeps_65 rfl rfl ?_
  refine q_getIE (k) (kI := 9) (n := 69) (by decide) dX8_keeps_66 rfl fX8_94 mi0 rfl rfl hk ?_
  refine q_imulS (n := 70) dX8_keeps_69 rfl ⟨by omega, by omega⟩ ?_
  refine q_c4U (n := 73) dX8_keeps_70 rfl (zX8_copies_1_8 _ _ _ ⟨by omega, by omega⟩ ⟨by omega, by omega⟩) vX8_copies lX8_97 rfl rfl ?_
  rw [om_cpy (fun _ => rfl) (fun _ => rfl)]
  refine q_aload_n (n := 74) dX8_keeps_73 rfl rfl ?_
  refine q_dup (n := 75) dX8_keeps_74 rfl rfl ?_
  refine q_getIE (k) (kI := 9) (n := 78) (by decide) dX8_keeps_75 rfl fX8_94 mi0 rfl rfl (by rw [om_n rfl, cpy_n (by omega)]; exact hk) ?_
  refine q_iconst (n := 79) dX8_keeps_78 rfl (k := ?_)
  refine q_iaddS (n := 80) dX8_keeps_79 rfl ⟨by omega, by omega⟩ ?_
  refine q_putI (kI := 9) (n := 83) dX8_keeps_80 rfl pX8_94 mi0 rfl rfl ?_
  rw [om_upn rfl]
  refine q_vret dX8_keeps_83 rfl ?_
  exact ⟨rfl, rfl⟩
set_option maxRecDepth 100000 in
theorem lpX8_k3 (σ s : q_S) (o1 : Option q_V) (h6 : σ 0 9 = 8) : q_WP mX8_keeps shM 44 [some (.inr (.inr 0)), o1] [] (ovM (shf σ 7 1) s) (fun r σ' => r = none ∧ σ' = ovM (q_up (q_cpy (q_up (shf σ 7 1) 0 9 7) 1 0 8 560 80) 0 9 8) s) := by
  have h7 : shf σ 7 1 0 9 = 8 := (shf_o (by decide) 7 1 σ).trans h6
  skip
  refine q_aload_n (n := 45) dX8_keeps_44 rfl rfl ?_
  refine q_dup (n := 46) dX8_keeps_45 rfl rfl ?_
  refine q_getIE (8) (kI := 9) (n := 49) (by decide) dX8_keeps_46 rfl fX8_94 mi0 rfl rfl h7 ?_
  refine q_iconst (n := 50) dX8_keeps_49 rfl (k := ?_)
  refine q_isubS (n := 51) dX8_keeps_50 rfl ⟨by omega, by omega⟩ ?_
  refine q_putI (kI := 9) (n := 54) dX8_keeps_51 rfl pX8_94 mi0 rfl rfl ?_
  rw [om_upn rfl]
  exact lpX8_k2 (q_up (shf σ 7 1) 0 9 7) s o1 7 q_up_s ⟨by decide, by decide⟩
set_option maxRecDepth 100000 in
theorem zX8_keeps (σ s : q_S) (hI : IM σ) : q_Ct mX8_keeps shM [.inr (.inr 0)] (ovM σ s) (fun r σ' => r = none ∧ σ' = ovM (kpM σ) s) := by
  refine q_ct 1 (by decide) rfl rfl ?_
  show q_WP mX8_keeps shM 0 [some (.inr (.inr 0)), none] [] (ovM σ s) _
  have hc := hI.2.2.2.1
  unfold kpM
  refine q_aload_n (n := 1) dX8_keeps_0 rfl rfl ?_
  refine q_getIF (σ 0) (kI := 9) (n := 4) (by decide) dX8_keeps_1 rfl fX8_94 mi0 rfl rfl rfl ?_
  refine q_bipush (n := 6) dX8_keeps_4 rfl (k := ?_)
  refine q_icmp_ne (n := 9) (t := 54) dX8_keeps_6 rfl (by decide) (fun h6 => ?_) (fun h6 => ?_)
  · skip
    first
      | (rw [if_neg h6]
         exact lpX8_k2 σ s _ (σ 0 9) rfl ⟨hc.1, by omega⟩)
  · skip
    refine q_iconst (n := 10) dX8_keeps_9 rfl (k := ?_)
    refine q_istore_n (n := 11) dX8_keeps_10 rfl (Nat.le_of_ble_eq_true rfl) (q_s1_1 rfl) ?_
    have h6 : σ 0 9 = 8 := h6
    rw [if_pos h6]
    refine lpX8_kp 7 1 σ s _ (by decide) (by decide) (fun o1 => ?_)
    exact lpX8_k3 σ s o1 h6
set_option maxRecDepth 100000 in
theorem zX8_undo (σ s : q_S) (hI : IM σ) : q_Ct mX8_undo shM [.inr (.inr 0)] (ovM σ s) (fun r σ' => ∃ z, r = some z ∧ ((σ 0 9 = 0 ∧ z = .inl (-2) ∧ σ' = ovM σ s) ∨ (σ 0 9 ≠ 0 ∧ z = .inl (σ 0 9 - 1) ∧ σ' = ovM (q_cpy (q_up σ 0 9 (σ 0 9 - 1)) 8 (80 * (σ 0 9 - 1)) 1 0 80) s))) := by
  refine q_ct 0 (by decide) rfl rfl ?_
  show q_WP mX8_undo shM 0 [some (.inr (.inr 0))] [] (ovM σ s) _
  have hc := hI.2.2.2.1
  refine q_aload_n (n := 1) dX8_undo_0 rfl rfl ?_
  refine q_getIF (σ 0) (kI := 9) (n := 4) (by decide) dX8_undo_1 rfl fX8_94 mi0 rfl rfl rfl ?_
  refine q_if_ne (n := 7) (t := 10) dX8_undo_4 rfl (by decide) (fun h4 => ?_) (fun h4 => ?_)
  · skip
    refine q_aload_n (n := 11) dX8_undo_10 rfl rfl ?_
    refine q_dup (n := 12) dX8_undo_11 rfl rfl ?_
    refine q_getIF (σ 0) (kI := 9) (n := 15) (by decide) dX8_undo_12 rfl fX8_94 mi0 rfl rfl rfl ?_
    refine q_iconst (n := 16) dX8_undo_15 rfl (k := ?_)
    refine q_isubS (n := 17) dX8_undo_16 rfl ⟨by omega, by omega⟩ ?_
    refine q_putI (kI := 9) (n := 20) dX8_undo_17 rfl pX8_94 mi0 rfl rfl ?_
    rw [om_upn rfl]
    refine q_aload_n (n := 21) dX8_undo_20 rfl rfl ?_
    refine q_getR (n := 24) dX8_undo_21 rfl fX8_45 mi0 rfl ?_
    refine q_bipush (n := 26) dX8_undo_24 rfl (k := ?_)
    refine q_aload_n (n := 27) dX8_undo_26 rfl rfl ?_
    refine q_getIE (σ 0 9 - 1) (kI := 9) (n := 30) (by decide) dX8_undo_27 rfl fX8_94 mi0 rfl rfl ((om_n rfl).trans q_up_s) ?_
    refine q_imulS (n := 31) dX8_undo_30 rfl ⟨by omega, by omega⟩ ?_
    refine q_aload_n (n := 32) dX8_undo_31 rfl rfl ?_
    refine q_getR (n := 35) dX8_undo_32 rfl fX8_23 mi0 rfl ?_
    refine q_iconst (n := 36) dX8_undo_35 rfl (k := ?_)
    refine q_c4U (n := 39) dX8_undo_36 rfl (zX8_copies_8_1 _ _ _ ⟨by omega, by omega⟩ ⟨by omega, by omega⟩) vX8_copies lX8_97 rfl rfl ?_
    rw [om_cpy (fun _ => rfl) (fun _ => rfl)]
    refine q_aload_n (n := 40) dX8_undo_39 rfl rfl ?_
    refine q_getIE (σ 0 9 - 1) (kI := 9) (n := 43) (by decide) dX8_undo_40 rfl fX8_94 mi0 rfl rfl ((om_n rfl).trans ((cpy_n (by omega)).trans q_up_s)) ?_
    refine q_iret dX8_undo_43 rfl (fun _ => rfl) ?_
    exact ⟨_, rfl, Or.inr ⟨h4, rfl, rfl⟩⟩
  · skip
    refine q_bipush (n := 9) dX8_undo_7 rfl (k := ?_)
    refine q_iret dX8_undo_9 rfl (fun _ => rfl) ?_
    exact ⟨_, rfl, Or.inl ⟨h4, rfl, rfl⟩⟩
set_option maxRecDepth 100000 in
theorem zX8_image (σ s : q_S) (hI : IM σ) : q_Ct mX8_image shM [.inr (.inr 0)] (ovM σ s) (fun r σ' => r = some (.inl (σ 1 1)) ∧ σ' = ovM (q_cpy (q_up σ 0 38 1) 1 0 21 0 80) s) := by
  refine q_ct 0 (by decide) rfl rfl ?_
  show q_WP mX8_image shM 0 [some (.inr (.inr 0))] [] (ovM σ s) _
  refine q_aload_n (n := 1) dX8_image_0 rfl rfl ?_
  refine q_iconst (n := 2) dX8_image_1 rfl (k := ?_)
  refine q_putZ (kI := 38) (n := 5) dX8_image_2 rfl pX8_375 mi0 rfl rfl ⟨by decide, by decide⟩ ?_
  rw [om_upn rfl]
  refine q_aload_n (n := 6) dX8_image_5 rfl rfl ?_
  refine q_getR (n := 9) dX8_image_6 rfl fX8_23 mi0 rfl ?_
  refine q_iconst (n := 10) dX8_image_9 rfl (k := ?_)
  refine q_aload_n (n := 11) dX8_image_10 rfl rfl ?_
  refine q_getR (n := 14) dX8_image_11 rfl fX8_85 mi0 rfl ?_
  refine q_iconst (n := 15) dX8_image_14 rfl (k := ?_)
  refine q_c4U (n := 18) dX8_image_15 rfl (zX8_copies_1_21 _ _ _ ⟨by omega, by omega⟩ ⟨by omega, by omega⟩) vX8_copies lX8_97 rfl rfl ?_
  rw [om_cpy (fun _ => rfl) (fun _ => rfl)]
  refine q_aload_n (n := 19) dX8_image_18 rfl rfl ?_
  refine q_getR (n := 22) dX8_image_19 rfl fX8_23 mi0 rfl ?_
  refine q_iconst (n := 23) dX8_image_22 rfl (k := ?_)
  refine q_ialoadE (σ 1 1) (n := 24) dX8_image_23 rfl mi1 ⟨by omega, by omega⟩ ((om_n rfl).trans ((cpy_n (by omega)).trans (q_up_n (by omega)))) ?_
  refine q_iret dX8_image_24 rfl (fun _ => rfl) ?_
  exact ⟨rfl, rfl⟩
set_option maxRecDepth 100000 in
theorem zX8_back (σ s : q_S) (hI : IM σ) : q_Ct mX8_back shM [.inr (.inr 0)] (ovM σ s) (fun r σ' => ∃ z, r = some z ∧ ((σ 0 38 = 0 ∧ z = .inl (-5) ∧ σ' = ovM σ s) ∨ (σ 0 38 ≠ 0 ∧ z = .inl (σ 21 1) ∧ σ' = ovM (q_up (q_cpy σ 21 0 1 0 80) 0 9 0) s))) := by
  refine q_ct 0 (by decide) rfl rfl ?_
  show q_WP mX8_back shM 0 [some (.inr (.inr 0))] [] (ovM σ s) _
  refine q_aload_n (n := 1) dX8_back_0 rfl rfl ?_
  refine q_getIF (σ 0) (kI := 38) (n := 4) (by decide) dX8_back_1 rfl fX8_375 mi0 rfl rfl rfl ?_
  refine q_if_ne (n := 7) (t := 10) dX8_back_4 rfl (by decide) (fun h4 => ?_) (fun h4 => ?_)
  · skip
    refine q_aload_n (n := 11) dX8_back_10 rfl rfl ?_
    refine q_getR (n := 14) dX8_back_11 rfl fX8_85 mi0 rfl ?_
    refine q_iconst (n := 15) dX8_back_14 rfl (k := ?_)
    refine q_aload_n (n := 16) dX8_back_15 rfl rfl ?_
    refine q_getR (n := 19) dX8_back_16 rfl fX8_23 mi0 rfl ?_
    refine q_iconst (n := 20) dX8_back_19 rfl (k := ?_)
    refine q_c4U (n := 23) dX8_back_20 rfl (zX8_copies_21_1 _ _ _ ⟨by omega, by omega⟩ ⟨by omega, by omega⟩) vX8_copies lX8_97 rfl rfl ?_
    rw [om_cpy (fun _ => rfl) (fun _ => rfl)]
    refine q_aload_n (n := 24) dX8_back_23 rfl rfl ?_
    refine q_iconst (n := 25) dX8_back_24 rfl (k := ?_)
    refine q_putI (kI := 9) (n := 28) dX8_back_25 rfl pX8_94 mi0 rfl rfl ?_
    rw [om_upn rfl]
    refine q_aload_n (n := 29) dX8_back_28 rfl rfl ?_
    refine q_getR (n := 32) dX8_back_29 rfl fX8_23 mi0 rfl ?_
    refine q_iconst (n := 33) dX8_back_32 rfl (k := ?_)
    refine q_ialoadE (σ 21 1) (n := 34) dX8_back_33 rfl mi1 ⟨by omega, by omega⟩ ((om_n rfl).trans ((q_up_n (by omega)).trans (cpy_s (by omega)))) ?_
    refine q_iret dX8_back_34 rfl (fun _ => rfl) ?_
    exact ⟨_, rfl, Or.inr ⟨h4, rfl, rfl⟩⟩
  · skip
    refine q_bipush (n := 9) dX8_back_7 rfl (k := ?_)
    refine q_iret dX8_back_9 rfl (fun _ => rfl) ?_
    exact ⟨_, rfl, Or.inl ⟨h4, rfl, rfl⟩⟩
