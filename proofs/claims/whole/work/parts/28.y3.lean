def fitL (f : Int → Int) (x y : Int) : Nat → Int → Int → Int
  | 0, _, b => b
  | n + 1, i, b => fitL f x y n (i + 1) (if onb f i x y = true then q_or b (q_shl 1 i) else b)
def fFits (nt : Int) (f : Int → Int) (x y : Int) : Int := if ¬ ((-20 ≤ x ∧ x ≤ 20) ∧ -20 ≤ y ∧ y ≤ 20) then -1 else fitL f x y nt.toNat 0 0
def cntL (f : Int → Int) (x y : Int) : Nat → Int → Int → Int
  | 0, _, k => k
  | n + 1, i, k => cntL f x y n (i + 1) (if onb f i x y = true then k + 1 else k)
theorem cntL_bd {f : Int → Int} {x y : Int} : ∀ (n : Nat) (i k : Int), k ≤ cntL f x y n i k ∧ cntL f x y n i k ≤ k + n := by
  intro n
  induction n with
  | zero => intro i k; simp [cntL]
  | succ n ih =>
    intro i k
    rw [cntL]
    have := ih (i + 1) (if onb f i x y = true then k + 1 else k)
    split at this <;> split <;> first | omega | (exfalso; contradiction)
def thY (g : Int → Int → Int) (x : Int) : Nat → Int → Int × Int → Int × Int
  | 0, _, s => s
  | n + 1, y, s => thY g x n (y + 1) (if s.1 < g x y then (g x y, 100 * (x + 20) + y + 20) else s)
def thX (g : Int → Int → Int) : Nat → Int → Int × Int → Int × Int
  | 0, _, s => s
  | n + 1, x, s => thX g n (x + 1) (thY g x 41 (-20) s)
def cntG (nt : Int) (f : Int → Int) (x y : Int) : Int := cntL f x y nt.toNat 0 0
def fThrough (nt : Int) (f : Int → Int) : Int := if nt = 0 then -2 else 10000 * (thX (cntG nt f) 41 (-20) (-1, 0)).1 + (thX (cntG nt f) 41 (-20) (-1, 0)).2
def on2 (f : Int → Int) (a b x y : Int) : Bool := onb f a x y && onb f b x y
theorem on2_t {f : Int → Int} {a b x y : Int} (h1 : onb f a x y = true) (h2 : onb f b x y = true) : on2 f a b x y = true := by unfold on2; rw [h1, h2]; rfl
theorem on2_f1 {f : Int → Int} {a b x y : Int} (h1 : ¬ onb f a x y = true) : ¬ on2 f a b x y = true := by unfold on2; intro z; rw [Bool.and_eq_true] at z; exact h1 z.1
theorem on2_f2 {f : Int → Int} {a b x y : Int} (h1 : ¬ onb f b x y = true) : ¬ on2 f a b x y = true := by unfold on2; intro z; rw [Bool.and_eq_true] at z; exact h1 z.2
def mtY (g : Int → Int → Bool) (k x : Int) : Nat → Int → Int → Int ⊕ Int
  | 0, _, c => .inl c
  | n + 1, y, c => if g x y = true then (if c = k then .inr (1000 * (x + 20) + y + 20) else mtY g k x n (y + 1) (c + 1)) else mtY g k x n (y + 1) c
def mtX (g : Int → Int → Bool) (k : Int) : Nat → Int → Int → Int ⊕ Int
  | 0, _, c => .inl c
  | n + 1, x, c => match mtY g k x 41 (-20) c with
    | .inl c' => mtX g k n (x + 1) c'
    | .inr v => .inr v
def fMeets (nt : Int) (f : Int → Int) (a b k : Int) : Int := if ¬ (0 ≤ a ∧ a < nt) ∨ ¬ (0 ≤ b ∧ b < nt) ∨ a = b ∨ k < -1 then -1 else match mtX (on2 f a b) k 41 (-20) 0 with
  | .inr v => v
  | .inl c => if k = -1 then c else -2
set_option maxRecDepth 100000 in
theorem lpX7_lc (σ s : q_S) (x y : Int) (hI : IX σ) (hL : ∀ t : Int, 0 ≤ t → t < σ 1 1 → laid s t (σ 2)) (hx : -20 ≤ x ∧ x ≤ 20) (hy : -20 ≤ y ∧ y ≤ 20) (h8 : σ 1 1 ≤ 8) : ∀ (n : Nat) (i k : Int), (n : Int) + i = σ 1 1 → 0 ≤ i → 0 ≤ k → k ≤ i → q_WP mX7_laidCurvesThrough shX 5 [some (.inr (.inr 0)), some (.inl x), some (.inl y), some (.inl k), some (.inl i)] [] (ov σ s) (fun r σ' => r = some (.inl (cntL (σ 2) x y n i k)) ∧ σ' = ov σ s) := by
  intro n
  induction n with
  | zero =>
    intro i k hi h0 hk0 hk
    refine q_iload (n := 7) dX7_laidCurvesThrough_5 rfl rfl ?_
    refine q_aload_n (n := 8) dX7_laidCurvesThrough_7 rfl rfl ?_
    refine q_getR (n := 11) dX7_laidCurvesThrough_8 rfl fX7_12 xi0 rfl ?_
    refine q_getIF (σ 1) (kI := 1) (n := 14) (by decide) dX7_laidCurvesThrough_11 rfl fX7_159 xi1 rfl rfl rfl ?_
    refine q_icmp_ge (n := 17) (t := 41) dX7_laidCurvesThrough_14 rfl (by decide) (fun h14 => ?_) (fun h14 => ?_)
    · skip
      refine q_iload_n (n := 42) dX7_laidCurvesThrough_41 rfl rfl ?_
      refine q_iret dX7_laidCurvesThrough_42 rfl (fun _ => rfl) ?_
      exact ⟨rfl, rfl⟩
    · exact absurd h14 (by omega)
  | succ n ih =>
    intro i k hi h0 hk0 hk
    have ht8 : 0 ≤ i ∧ i < 8 := by omega
    have hg := hI.pt (by omega : 0 ≤ i ∧ i < σ 1 1)
    have hlt := hL i h0 (by omega)
    refine q_iload (n := 7) dX7_laidCurvesThrough_5 rfl rfl ?_
    refine q_aload_n (n := 8) dX7_laidCurvesThrough_7 rfl rfl ?_
    refine q_getR (n := 11) dX7_laidCurvesThrough_8 rfl fX7_12 xi0 rfl ?_
    refine q_getIF (σ 1) (kI := 1) (n := 14) (by decide) dX7_laidCurvesThrough_11 rfl fX7_159 xi1 rfl rfl rfl ?_
    refine q_icmp_ge (n := 17) (t := 41) dX7_laidCurvesThrough_14 rfl (by decide) (fun h14 => ?_) (fun h14 => ?_)
    · exact absurd h14 (by omega)
    · skip
      refine q_aload_n (n := 18) dX7_laidCurvesThrough_17 rfl rfl ?_
      refine q_getR (n := 21) dX7_laidCurvesThrough_18 rfl fX7_34 xi0 rfl ?_
      refine q_iload (n := 23) dX7_laidCurvesThrough_21 rfl rfl ?_
      refine q_aaload (n := 24) dX7_laidCurvesThrough_23 rfl xi80 (fun _ => rfl) ⟨by omega, by omega⟩ ?_
      refine q_iload_n (n := 25) dX7_laidCurvesThrough_24 rfl rfl ?_
      refine q_iload_n (n := 26) dX7_laidCurvesThrough_25 rfl rfl ?_
      refine q_v2D (n := 29) dX7_laidCurvesThrough_26 rfl (zC_passes _ _ _ i x y ht8 hlt hg (by omega) (by omega)) vX0_passes lX7_206 rfl rfl (curN i ht8) rfl ?_
      refine q_if_eq (n := 32) (t := 35) dX7_laidCurvesThrough_29 rfl (by decide) (fun h29 => ?_) (fun h29 => ?_)
      · have h29 := q_b0.mp h29
        refine q_iinc (n := 38) dX7_laidCurvesThrough_35 rfl (Nat.le_of_ble_eq_true rfl) rfl (q_nwid ⟨by omega, by omega⟩) (q_s1_s (q_s1_s (q_s1_s (q_s1_1 rfl)))) ?_
        refine q_go (t := 5) dX7_laidCurvesThrough_38 (by decide) ?_
        rw [cntL]
        first
          | (rw [if_pos (by assumption)]; exact ih _ _ (by omega) (by omega) (by omega) (by omega))
          | (rw [if_neg (by assumption)]; exact ih _ _ (by omega) (by omega) (by omega) (by omega))
      · have h29 := q_b1.mp h29
        refine q_iinc (n := 35) dX7_laidCurvesThrough_32 rfl (Nat.le_of_ble_eq_true rfl) rfl (q_nwid ⟨by omega, by omega⟩) (q_s1_s (q_s1_s (q_s1_1 rfl))) ?_
        refine q_iinc (n := 38) dX7_laidCurvesThrough_35 rfl (Nat.le_of_ble_eq_true rfl) rfl (q_nwid ⟨by omega, by omega⟩) (q_s1_s (q_s1_s (q_s1_s (q_s1_1 rfl)))) ?_
        refine q_go (t := 5) dX7_laidCurvesThrough_38 (by decide) ?_
        rw [cntL]
        first
          | (rw [if_pos (by assumption)]; exact ih _ _ (by omega) (by omega) (by omega) (by omega))
          | (rw [if_neg (by assumption)]; exact ih _ _ (by omega) (by omega) (by omega) (by omega))
set_option maxRecDepth 100000 in
theorem zX7_laidCurvesThrough (x y : Int) (σ s : q_S) (hI : IX σ) (hL : ∀ t : Int, 0 ≤ t → t < σ 1 1 → laid s t (σ 2)) (hx : -20 ≤ x ∧ x ≤ 20) (hy : -20 ≤ y ∧ y ≤ 20) : q_Ct mX7_laidCurvesThrough shX [.inr (.inr 0), .inl x, .inl y] (ov σ s) (fun r σ' => r = some (.inl (cntG (σ 1 1) (σ 2) x y)) ∧ σ' = ov σ s) := by
  refine q_ct 2 (by decide) rfl rfl ?_
  show q_WP mX7_laidCurvesThrough shX 0 [some (.inr (.inr 0)), some (.inl x), some (.inl y), none, none] [] (ov σ s) _
  have hn := hI.1.2.1
  refine q_iconst (n := 1) dX7_laidCurvesThrough_0 rfl (k := ?_)
  refine q_istore_n (n := 2) dX7_laidCurvesThrough_1 rfl (Nat.le_of_ble_eq_true rfl) (q_s1_s (q_s1_s (q_s1_1 rfl))) ?_
  refine q_iconst (n := 3) dX7_laidCurvesThrough_2 rfl (k := ?_)
  refine q_istore (n := 5) dX7_laidCurvesThrough_3 rfl (Nat.le_of_ble_eq_true rfl) (q_s1_s (q_s1_s (q_s1_s (q_s1_1 rfl)))) ?_
  exact lpX7_lc σ s x y hI hL hx hy hn.2 (σ 1 1).toNat 0 0 (by omega) (by omega) (by omega) (by omega)
set_option maxRecDepth 100000 in
theorem lpX7_fi (σ : q_S) (x y : Int) (hI : IX σ) (hx : -20 ≤ x ∧ x ≤ 20) (hy : -20 ≤ y ∧ y ≤ 20) (h8 : σ 1 1 ≤ 8) : ∀ (n : Nat) (i b : Int) (s : q_S), (n : Int) + i = σ 1 1 → 0 ≤ i → q_WP mX7_fits shX 15 [some (.inr (.inr 0)), some (.inl x), some (.inl y), some (.inl b), some (.inl i)] [] (ov σ s) (fun r σ' => r = some (.inl (fitL (σ 2) x y n i b)) ∧ ∃ s', σ' = ov σ s' ∧ ∀ c : Int, c < 96 → s' c = s c) := by
  intro n
  induction n with
  | zero =>
    intro i b s hi h0
    refine q_iload (n := 17) dX7_fits_15 rfl rfl ?_
    refine q_aload_n (n := 18) dX7_fits_17 rfl rfl ?_
    refine q_getR (n := 21) dX7_fits_18 rfl fX7_12 xi0 rfl ?_
    refine q_getIF (σ 1) (kI := 1) (n := 24) (by decide) dX7_fits_21 rfl fX7_159 xi1 rfl rfl rfl ?_
    refine q_icmp_ge (n := 27) (t := 54) dX7_fits_24 rfl (by decide) (fun h24 => ?_) (fun h24 => ?_)
    · skip
      refine q_iload_n (n := 55) dX7_fits_54 rfl rfl ?_
      refine q_iret dX7_fits_55 rfl (fun _ => rfl) ?_
      exact ⟨rfl, s, rfl, fun _ _ => rfl⟩
    · exact absurd h24 (by omega)
  | succ n ih =>
    intro i b s hi h0
    have ht8 : 0 ≤ i ∧ i < 8 := by omega
    have hg := hI.pt (by omega : 0 ≤ i ∧ i < σ 1 1)
    refine q_iload (n := 17) dX7_fits_15 rfl rfl ?_
    refine q_aload_n (n := 18) dX7_fits_17 rfl rfl ?_
    refine q_getR (n := 21) dX7_fits_18 rfl fX7_12 xi0 rfl ?_
    refine q_getIF (σ 1) (kI := 1) (n := 24) (by decide) dX7_fits_21 rfl fX7_159 xi1 rfl rfl rfl ?_
    refine q_icmp_ge (n := 27) (t := 54) dX7_fits_24 rfl (by decide) (fun h24 => ?_) (fun h24 => ?_)
    · exact absurd h24 (by omega)
    · skip
      refine q_aload_n (n := 28) dX7_fits_27 rfl rfl ?_
      refine q_iload (n := 30) dX7_fits_28 rfl rfl ?_
      refine q_v1D (n := 33) dX7_fits_30 rfl (zX7_curveOf σ _ i hI (by omega)) vX7_curveOf lX7_116 rfl rfl xi0 rfl ?_
      refine q_iload_n (n := 34) dX7_fits_33 rfl rfl ?_
      refine q_iload_n (n := 35) dX7_fits_34 rfl rfl ?_
      refine q_v2D (n := 38) dX7_fits_35 rfl (zC_passes _ _ _ i x y ht8 laid_cvl hg (by omega) (by omega)) vX0_passes lX7_206 rfl rfl (curN i ht8) rfl ?_
      refine q_if_eq (n := 41) (t := 48) dX7_fits_38 rfl (by decide) (fun h38 => ?_) (fun h38 => ?_)
      · have h38 := q_b0.mp h38
        refine q_iinc (n := 51) dX7_fits_48 rfl (Nat.le_of_ble_eq_true rfl) rfl (q_nwid ⟨by omega, by omega⟩) (q_s1_s (q_s1_s (q_s1_s (q_s1_1 rfl)))) ?_
        refine q_go (t := 15) dX7_fits_51 (by decide) ?_
        rw [fitL]
        first
          | (rw [if_pos (by assumption)]
             refine (ih _ _ _ (by omega) (by omega)).imp ?_
             rintro r σ2 ⟨h1, s2, h2, h3⟩
             exact ⟨h1, s2, h2, fun c hc => by rw [h3 c hc, cvl_of (by omega)]⟩)
          | (rw [if_neg (by assumption)]
             refine (ih _ _ _ (by omega) (by omega)).imp ?_
             rintro r σ2 ⟨h1, s2, h2, h3⟩
             exact ⟨h1, s2, h2, fun c hc => by rw [h3 c hc, cvl_of (by omega)]⟩)
      · have h38 := q_b1.mp h38
        refine q_iload_n (n := 42) dX7_fits_41 rfl rfl ?_
        refine q_iconst (n := 43) dX7_fits_42 rfl (k := ?_)
        refine q_iload (n := 45) dX7_fits_43 rfl rfl ?_
        refine q_ishl (n := 46) dX7_fits_45 rfl ?_
        refine q_ior (n := 47) dX7_fits_46 rfl ?_
        refine q_istore_n (n := 48) dX7_fits_47 rfl (Nat.le_of_ble_eq_true rfl) (q_s1_s (q_s1_s (q_s1_1 rfl))) ?_
        refine q_iinc (n := 51) dX7_fits_48 rfl (Nat.le_of_ble_eq_true rfl) rfl (q_nwid ⟨by omega, by omega⟩) (q_s1_s (q_s1_s (q_s1_s (q_s1_1 rfl)))) ?_
        refine q_go (t := 15) dX7_fits_51 (by decide) ?_
        rw [fitL]
        first
          | (rw [if_pos (by assumption)]
             refine (ih _ _ _ (by omega) (by omega)).imp ?_
             rintro r σ2 ⟨h1, s2, h2, h3⟩
             exact ⟨h1, s2, h2, fun c hc => by rw [h3 c hc, cvl_of (by omega)]⟩)
          | (rw [if_neg (by assumption)]
             refine (ih _ _ _ (by omega) (by omega)).imp ?_
             rintro r σ2 ⟨h1, s2, h2, h3⟩
             exact ⟨h1, s2, h2, fun c hc => by rw [h3 c hc, cvl_of (by omega)]⟩)
set_option maxRecDepth 100000 in
theorem zX7_fits (x y : Int) (σ s : q_S) (hI : IX σ) : q_Ct mX7_fits shX [.inr (.inr 0), .inl x, .inl y] (ov σ s) (fun r σ' => r = some (.inl (fFits (σ 1 1) (σ 2) x y)) ∧ ∃ s', σ' = ov σ s' ∧ ∀ c : Int, c < 96 → s' c = s c) := by
  refine q_ct 2 (by decide) rfl rfl ?_
  show q_WP mX7_fits shX 0 [some (.inr (.inr 0)), some (.inl x), some (.inl y), none, none] [] (ov σ s) _
  have hn := hI.1.2.1
  refine q_iload_n (n := 1) dX7_fits_0 rfl rfl ?_
  refine q_iload_n (n := 2) dX7_fits_1 rfl rfl ?_
  refine q_c2D (n := 5) dX7_fits_2 rfl (zX7_isPoint _ _ _) vX7_isPoint lX7_202 rfl rfl ?_
  refine q_if_ne (n := 8) (t := 10) dX7_fits_5 rfl (by decide) (fun h5 => ?_) (fun h5 => ?_)
  · have h5 := q_b1.mp h5
    refine q_iconst (n := 11) dX7_fits_10 rfl (k := ?_)
    refine q_istore_n (n := 12) dX7_fits_11 rfl (Nat.le_of_ble_eq_true rfl) (q_s1_s (q_s1_s (q_s1_1 rfl))) ?_
    refine q_iconst (n := 13) dX7_fits_12 rfl (k := ?_)
    refine q_istore (n := 15) dX7_fits_13 rfl (Nat.le_of_ble_eq_true rfl) (q_s1_s (q_s1_s (q_s1_s (q_s1_1 rfl)))) ?_
    unfold fFits
    rw [if_neg (by omega)]
    exact lpX7_fi σ x y hI h5.1 h5.2 hn.2 (σ 1 1).toNat 0 0 _ (by omega) (by omega)
  · have h5 := q_b0.mp h5
    refine q_iconst (n := 9) dX7_fits_8 rfl (k := ?_)
    refine q_iret dX7_fits_9 rfl (fun _ => rfl) ?_
    unfold fFits
    rw [if_pos h5]
    exact ⟨rfl, s, rfl, fun _ _ => rfl⟩
theorem thY_bd {nt : Int} {f : Int → Int} {x : Int} (hn : 0 ≤ nt ∧ nt ≤ 8) (hx : -20 ≤ x ∧ x ≤ 20) : ∀ (n : Nat) (y : Int) (s : Int × Int), (n : Int) + y = 21 → -20 ≤ y → (-1 ≤ s.1 ∧ s.1 ≤ 8) ∧ (0 ≤ s.2 ∧ s.2 ≤ 5000) → (-1 ≤ (thY (cntG nt f) x n y s).1 ∧ (thY (cntG nt f) x n y s).1 ≤ 8) ∧ (0 ≤ (thY (cntG nt f) x n y s).2 ∧ (thY (cntG nt f) x n y s).2 ≤ 5000) := by
  intro n
  induction n with
  | zero => intro y s _ _ h; exact h
  | succ n ih =>
    intro y s hy h0 h
    rw [thY]
    refine ih (y + 1) _ (by omega) (by omega) ?_
    have hc := cntL_bd (f := f) (x := x) (y := y) nt.toNat 0 0
    have hc2 : 0 ≤ cntG nt f x y ∧ cntG nt f x y ≤ 8 := by unfold cntG; omega
    split
    · dsimp only
      omega
    · exact h
theorem thX_bd {nt : Int} {f : Int → Int} (hn : 0 ≤ nt ∧ nt ≤ 8) : ∀ (n : Nat) (x : Int) (s : Int × Int), (n : Int) + x = 21 → -20 ≤ x → (-1 ≤ s.1 ∧ s.1 ≤ 8) ∧ (0 ≤ s.2 ∧ s.2 ≤ 5000) → (-1 ≤ (thX (cntG nt f) n x s).1 ∧ (thX (cntG nt f) n x s).1 ≤ 8) ∧ (0 ≤ (thX (cntG nt f) n x s).2 ∧ (thX (cntG nt f) n x s).2 ≤ 5000) := by
  intro n
  induction n with
  | zero => intro x s _ _ h; exact h
  | succ n ih =>
    intro x s hx h0 h
    rw [thX]
    exact ih (x + 1) _ (by omega) (by omega) (thY_bd hn (by omega) 41 (-20) s (by decide) (by decide) h)
set_option maxRecDepth 100000 in
theorem lpX7_ty (σ s : q_S) (x : Int) (Q : Option q_V → q_S → Prop) (hI : IX σ) (hL : ∀ t : Int, 0 ≤ t → t < σ 1 1 → laid s t (σ 2)) (hx : -20 ≤ x ∧ x ≤ 20) : ∀ (n : Nat) (y : Int) (a : Int × Int) (o5 : Option q_V), (n : Int) + y = 21 → -20 ≤ y → (-1 ≤ a.1 ∧ a.1 ≤ 8) ∧ (0 ≤ a.2 ∧ a.2 ≤ 5000) → (∀ (o4 o5 : Option q_V), q_WP mX7_through shX 100 [some (.inr (.inr 0)), some (.inl (thY (cntG (σ 1 1) (σ 2)) x n y a).1), some (.inl (thY (cntG (σ 1 1) (σ 2)) x n y a).2), some (.inl x), o4, o5] [] (ov σ s) Q) → q_WP mX7_through shX 55 [some (.inr (.inr 0)), some (.inl a.1), some (.inl a.2), some (.inl x), some (.inl y), o5] [] (ov σ s) Q := by
  intro n
  have hn := hI.1.2.1
  induction n with
  | zero =>
    intro y a o5 hy h0 ha hk
    refine q_iload (n := 57) dX7_through_55 rfl rfl ?_
    refine q_bipush (n := 59) dX7_through_57 rfl (k := ?_)
    refine q_icmp_gt (n := 62) (t := 100) dX7_through_59 rfl (by decide) (fun h59 => ?_) (fun h59 => ?_)
    · skip
      exact hk _ _
    · exact absurd h59 (by omega)
  | succ n ih =>
    intro y a o5 hy h0 ha hk
    have hc := cntL_bd (f := σ 2) (x := x) (y := y) (σ 1 1).toNat 0 0
    have hc2 : 0 ≤ cntG (σ 1 1) (σ 2) x y ∧ cntG (σ 1 1) (σ 2) x y ≤ 8 := by unfold cntG; omega
    refine q_iload (n := 57) dX7_through_55 rfl rfl ?_
    refine q_bipush (n := 59) dX7_through_57 rfl (k := ?_)
    refine q_icmp_gt (n := 62) (t := 100) dX7_through_59 rfl (by decide) (fun h59 => ?_) (fun h59 => ?_)
    · exact absurd h59 (by omega)
    · skip
      refine q_aload_n (n := 63) dX7_through_62 rfl rfl ?_
      refine q_iload_n (n := 64) dX7_through_63 rfl rfl ?_
      refine q_iload (n := 66) dX7_through_64 rfl rfl ?_
      refine q_v2D (n := 69) dX7_through_66 rfl (zX7_laidCurvesThrough x y σ s hI hL hx (by omega)) vX7_laidCurvesThrough lX7_221 rfl rfl xi0 rfl ?_
      refine q_istore (n := 71) dX7_through_69 rfl (Nat.le_of_ble_eq_true rfl) (q_s1_s (q_s1_s (q_s1_s (q_s1_s (q_s1_1 rfl))))) ?_
      refine q_iload (n := 73) dX7_through_71 rfl rfl ?_
      refine q_iload_n (n := 74) dX7_through_73 rfl rfl ?_
      refine q_icmp_le (n := 77) (t := 94) dX7_through_74 rfl (by decide) (fun h74 => ?_) (fun h74 => ?_)
      · skip
        refine q_iinc (n := 97) dX7_through_94 rfl (Nat.le_of_ble_eq_true rfl) rfl (q_nwid ⟨by omega, by omega⟩) (q_s1_s (q_s1_s (q_s1_s (q_s1_1 rfl)))) ?_
        refine q_go (t := 55) dX7_through_97 (by decide) ?_
        rw [thY] at hk
        first
          | (rw [if_pos (by omega)] at hk
             exact ih (y + 1) (cntG (σ 1 1) (σ 2) x y, 100 * (x + 20) + y + 20) _ (by omega) (by omega) (by dsimp only; omega) hk)
          | (rw [if_neg (by omega)] at hk
             exact ih (y + 1) a _ (by omega) (by omega) ha hk)
      · skip
        refine q_iload (n := 79) dX7_through_77 rfl rfl ?_
        refine q_istore_n (n := 80) dX7_through_79 rfl (Nat.le_of_ble_eq_true rfl) (q_s1_1 rfl) ?_
        refine q_bipush (n := 82) dX7_through_80 rfl (k := ?_)
        refine q_iload_n (n := 83) dX7_through_82 rfl rfl ?_
        refine q_bipush (n := 85) dX7_through_83 rfl (k := ?_)
        refine q_iaddS (n := 86) dX7_through_85 rfl ⟨by omega, by omega⟩ ?_
        refine q_imulS (n := 87) dX7_through_86 rfl ⟨by omega, by omega⟩ ?_
        refine q_iload (n := 89) dX7_through_87 rfl rfl ?_
        refine q_iaddS (n := 90) dX7_through_89 rfl ⟨by omega, by omega⟩ ?_
        refine q_bipush (n := 92) dX7_through_90 rfl (k := ?_)
        refine q_iaddS (n := 93) dX7_through_92 rfl ⟨by omega, by omega⟩ ?_
        refine q_istore_n (n := 94) dX7_through_93 rfl (Nat.le_of_ble_eq_true rfl) (q_s1_s (q_s1_1 rfl)) ?_
        refine q_iinc (n := 97) dX7_through_94 rfl (Nat.le_of_ble_eq_true rfl) rfl (q_nwid ⟨by omega, by omega⟩) (q_s1_s (q_s1_s (q_s1_s (q_s1_1 rfl)))) ?_
        refine q_go (t := 55) dX7_through_97 (by decide) ?_
        rw [thY] at hk
        first
          | (rw [if_pos (by omega)] at hk
             exact ih (y + 1) (cntG (σ 1 1) (σ 2) x y, 100 * (x + 20) + y + 20) _ (by omega) (by omega) (by dsimp only; omega) hk)
          | (rw [if_neg (by omega)] at hk
             exact ih (y + 1) a _ (by omega) (by omega) ha hk)
set_option maxRecDepth 100000 in
theorem lpX7_tx (σ s : q_S) (hI : IX σ) (h1 : σ 1 1 ≠ 0) (hL : ∀ t : Int, 0 ≤ t → t < σ 1 1 → laid s t (σ 2)) : ∀ (n : Nat) (x : Int) (a : Int × Int) (o4 o5 : Option q_V), (n : Int) + x = 21 → -20 ≤ x → (-1 ≤ a.1 ∧ a.1 ≤ 8) ∧ (0 ≤ a.2 ∧ a.2 ≤ 5000) → thX (cntG (σ 1 1) (σ 2)) n x a = thX (cntG (σ 1 1) (σ 2)) 41 (-20) (-1, 0) → q_WP mX7_through shX 45 [some (.inr (.inr 0)), some (.inl a.1), some (.inl a.2), some (.inl x), o4, o5] [] (ov σ s) (fun r σ' => r = some (.inl (fThrough (σ 1 1) (σ 2))) ∧ ∃ s', σ' = ov σ s') := by
  intro n
  have hn := hI.1.2.1
  induction n with
  | zero =>
    intro x a o4 o5 hx h0 ha he
    rw [thX] at he
    refine q_iload_n (n := 46) dX7_through_45 rfl rfl ?_
    refine q_bipush (n := 48) dX7_through_46 rfl (k := ?_)
    refine q_icmp_gt (n := 51) (t := 106) dX7_through_48 rfl (by decide) (fun h48 => ?_) (fun h48 => ?_)
    · skip
      refine q_sipush (n := 109) dX7_through_106 rfl (k := ?_)
      refine q_iload_n (n := 110) dX7_through_109 rfl rfl ?_
      refine q_imulS (n := 111) dX7_through_110 rfl ⟨by omega, by omega⟩ ?_
      refine q_iload_n (n := 112) dX7_through_111 rfl rfl ?_
      refine q_iaddS (n := 113) dX7_through_112 rfl ⟨by omega, by omega⟩ ?_
      refine q_iret dX7_through_113 rfl (fun _ => rfl) ?_
      unfold fThrough
      rw [if_neg h1, ← he]
      exact ⟨rfl, _, rfl⟩
    · exact absurd h48 (by omega)
  | succ n ih =>
    intro x a o4 o5 hx h0 ha he
    rw [thX] at he
    refine q_iload_n (n := 46) dX7_through_45 rfl rfl ?_
    refine q_bipush (n := 48) dX7_through_46 rfl (k := ?_)
    refine q_icmp_gt (n := 51) (t := 106) dX7_through_48 rfl (by decide) (fun h48 => ?_) (fun h48 => ?_)
    · exact absurd h48 (by omega)
    · skip
      refine q_bipush (n := 53) dX7_through_51 rfl (k := ?_)
      refine q_istore (n := 55) dX7_through_53 rfl (Nat.le_of_ble_eq_true rfl) (q_s1_s (q_s1_s (q_s1_s (q_s1_1 rfl)))) ?_
      refine lpX7_ty σ s x _ hI hL (by omega) 41 (-20) a _ (by decide) (by decide) ha ?_
      intro o4 o5
      refine q_iinc (n := 103) dX7_through_100 rfl (Nat.le_of_ble_eq_true rfl) rfl (q_nwid ⟨by omega, by omega⟩) (q_s1_s (q_s1_s (q_s1_1 rfl))) ?_
      refine q_go (t := 45) dX7_through_103 (by decide) ?_
      exact ih (x + 1) _ _ _ (by omega) (by omega) (thY_bd hn (by omega) 41 (-20) a (by decide) (by decide) ha) he
set_option maxRecDepth 100000 in
theorem lpX7_tl (σ : q_S) (hI : IX σ) (h1 : σ 1 1 ≠ 0) : ∀ (n : Nat) (i : Int) (s : q_S), (n : Int) + i = σ 1 1 → 0 ≤ i → (∀ t : Int, 0 ≤ t → t < i → laid s t (σ 2)) → q_WP mX7_through shX 15 [some (.inr (.inr 0)), some (.inl i), none, none, none, none] [] (ov σ s) (fun r σ' => r = some (.inl (fThrough (σ 1 1) (σ 2))) ∧ ∃ s', σ' = ov σ s') := by
  intro n
  have hn := hI.1.2.1
  induction n with
  | zero =>
    intro i s hi h0 hL
    refine q_iload_n (n := 16) dX7_through_15 rfl rfl ?_
    refine q_aload_n (n := 17) dX7_through_16 rfl rfl ?_
    refine q_getR (n := 20) dX7_through_17 rfl fX7_12 xi0 rfl ?_
    refine q_getIF (σ 1) (kI := 1) (n := 23) (by decide) dX7_through_20 rfl fX7_159 xi1 rfl rfl rfl ?_
    refine q_icmp_ge (n := 26) (t := 38) dX7_through_23 rfl (by decide) (fun h23 => ?_) (fun h23 => ?_)
    · skip
      refine q_iconst (n := 39) dX7_through_38 rfl (k := ?_)
      refine q_istore_n (n := 40) dX7_through_39 rfl (Nat.le_of_ble_eq_true rfl) (q_s1_1 rfl) ?_
      refine q_iconst (n := 41) dX7_through_40 rfl (k := ?_)
      refine q_istore_n (n := 42) dX7_through_41 rfl (Nat.le_of_ble_eq_true rfl) (q_s1_s (q_s1_1 rfl)) ?_
      refine q_bipush (n := 44) dX7_through_42 rfl (k := ?_)
      refine q_istore_n (n := 45) dX7_through_44 rfl (Nat.le_of_ble_eq_true rfl) (q_s1_s (q_s1_s (q_s1_1 rfl))) ?_
      exact lpX7_tx σ s hI h1 (fun t h2 h3 => hL t h2 (by omega)) 41 (-20) (-1, 0) _ _ (by decide) (by decide) ⟨⟨by decide, by decide⟩, by decide, by decide⟩ rfl
    · exact absurd h23 (by omega)
  | succ n ih =>
    intro i s hi h0 hL
    refine q_iload_n (n := 16) dX7_through_15 rfl rfl ?_
    refine q_aload_n (n := 17) dX7_through_16 rfl rfl ?_
    refine q_getR (n := 20) dX7_through_17 rfl fX7_12 xi0 rfl ?_
    refine q_getIF (σ 1) (kI := 1) (n := 23) (by decide) dX7_through_20 rfl fX7_159 xi1 rfl rfl rfl ?_
    refine q_icmp_ge (n := 26) (t := 38) dX7_through_23 rfl (by decide) (fun h23 => ?_) (fun h23 => ?_)
    · exact absurd h23 (by omega)
    · skip
      refine q_aload_n (n := 27) dX7_through_26 rfl rfl ?_
      refine q_iload_n (n := 28) dX7_through_27 rfl rfl ?_
      refine q_v1D (n := 31) dX7_through_28 rfl (zX7_curveOf σ _ i hI (by omega)) vX7_curveOf lX7_116 rfl rfl xi0 rfl ?_
      refine q_pop (n := 32) dX7_through_31 rfl rfl ?_
      refine q_iinc (n := 35) dX7_through_32 rfl (Nat.le_of_ble_eq_true rfl) rfl (q_nwid ⟨by omega, by omega⟩) (q_s1_1 rfl) ?_
      refine q_go (t := 15) dX7_through_35 (by decide) ?_
      exact ih (i + 1) _ (by omega) (by omega) (fun t h2 h3 => by
        by_cases e : t = i
        · subst e
          exact laid_cvl
        · exact laid_keep (hL t h2 (by omega)))
set_option maxRecDepth 100000 in
theorem zX7_through (σ s : q_S) (hI : IX σ) : q_Ct mX7_through shX [.inr (.inr 0)] (ov σ s) (fun r σ' => r = some (.inl (fThrough (σ 1 1) (σ 2))) ∧ ∃ s', σ' = ov σ s') := by
  refine q_ct 5 (by decide) rfl rfl ?_
  show q_WP mX7_through shX 0 [some (.inr (.inr 0)), none, none, none, none, none] [] (ov σ s) _
  have hn := hI.1.2.1
  refine q_aload_n (n := 1) dX7_through_0 rfl rfl ?_
  refine q_getR (n := 4) dX7_through_1 rfl fX7_12 xi0 rfl ?_
  refine q_getIF (σ 1) (kI := 1) (n := 7) (by decide) dX7_through_4 rfl fX7_159 xi1 rfl rfl rfl ?_
  refine q_if_ne (n := 10) (t := 13) dX7_through_7 rfl (by decide) (fun h7 => ?_) (fun h7 => ?_)
  · skip
    refine q_iconst (n := 14) dX7_through_13 rfl (k := ?_)
    refine q_istore_n (n := 15) dX7_through_14 rfl (Nat.le_of_ble_eq_true rfl) (q_s1_1 rfl) ?_
    exact lpX7_tl σ hI ‹_› (σ 1 1).toNat 0 s (by omega) (by omega) (fun t h2 h3 => by omega)
  · skip
    refine q_bipush (n := 12) dX7_through_10 rfl (k := ?_)
    refine q_iret dX7_through_12 rfl (fun _ => rfl) ?_
    unfold fThrough
    rw [if_pos (by assumption)]
    exact ⟨rfl, _, rfl⟩
set_option maxRecDepth 100000 in
theorem lpX7_my (σ s : q_S) (a b k x : Int) (Q : Option q_V → q_S → Prop) (ha8 : 0 ≤ a ∧ a < 8) (hb8 : 0 ≤ b ∧ b < 8) (hga : lG (σ 2) (6 * a)) (hgb : lG (σ 2) (6 * b)) (hla : laid s a (σ 2)) (hlb : laid s b (σ 2)) (hx : -20 ≤ x ∧ x ≤ 20) : ∀ (n : Nat) (y c : Int), (n : Int) + y = 21 → -20 ≤ y → 0 ≤ c → c ≤ 1000000 - n → (∀ (c' : Int) (o8 : Option q_V), mtY (on2 (σ 2) a b) k x n y c = .inl c' → 0 ≤ c' → c' ≤ c + n → q_WP mX7_meets shX 128 [some (.inr (.inr 0)), some (.inl a), some (.inl b), some (.inl k), some (.inr (.inr (96 + a))), some (.inr (.inr (96 + b))), some (.inl c'), some (.inl x), o8] [] (ov σ s) Q) → (∀ v, mtY (on2 (σ 2) a b) k x n y c = .inr v → Q (some (.inl v)) (ov σ s)) → q_WP mX7_meets shX 66 [some (.inr (.inr 0)), some (.inl a), some (.inl b), some (.inl k), some (.inr (.inr (96 + a))), some (.inr (.inr (96 + b))), some (.inl c), some (.inl x), some (.inl y)] [] (ov σ s) Q := by
  intro n
  induction n with
  | zero =>
    intro y c hy h0 hc hc2 hk hr
    refine q_iload (n := 68) dX7_meets_66 rfl rfl ?_
    refine q_bipush (n := 70) dX7_meets_68 rfl (k := ?_)
    refine q_icmp_gt (n := 73) (t := 128) dX7_meets_70 rfl (by decide) (fun h70 => ?_) (fun h70 => ?_)
    · skip
      exact hk c _ rfl (by omega) (by omega)
    · exact absurd h70 (by omega)
  | succ n ih =>
    intro y c hy h0 hc hc2 hk hr
    refine q_iload (n := 68) dX7_meets_66 rfl rfl ?_
    refine q_bipush (n := 70) dX7_meets_68 rfl (k := ?_)
    refine q_icmp_gt (n := 73) (t := 128) dX7_meets_70 rfl (by decide) (fun h70 => ?_) (fun h70 => ?_)
    · exact absurd h70 (by omega)
    · skip
      refine q_aload (n := 75) dX7_meets_73 rfl rfl ?_
      refine q_iload (n := 77) dX7_meets_75 rfl rfl ?_
      refine q_iload (n := 79) dX7_meets_77 rfl rfl ?_
      refine q_v2D (n := 82) dX7_meets_79 rfl (zC_passes _ _ _ a x y ha8 hla hga (by omega) (by omega)) vX0_passes lX7_206 rfl rfl (curN a ha8) rfl ?_
      refine q_if_eq (n := 85) (t := 122) dX7_meets_82 rfl (by decide) (fun h82 => ?_) (fun h82 => ?_)
      · have h82 := q_b0.mp h82
        refine q_iinc (n := 125) dX7_meets_122 rfl (Nat.le_of_ble_eq_true rfl) rfl (q_nwid ⟨by omega, by omega⟩) (q_s1_s (q_s1_s (q_s1_s (q_s1_s (q_s1_s (q_s1_s (q_s1_s (q_s1_1 rfl)))))))) ?_
        refine q_go (t := 66) dX7_meets_125 (by decide) ?_
        first
          | exact ih (y + 1) (c + 1) (by omega) (by omega) (by omega) (by omega) (fun c' o8 e h1 h2 => hk c' o8 (by rw [mtY, if_pos (on2_t h82 h94), if_neg h100]; exact e) h1 (by omega)) (fun v e => hr v (by rw [mtY, if_pos (on2_t h82 h94), if_neg h100]; exact e))
          | exact ih (y + 1) c (by omega) (by omega) (by omega) (by omega) (fun c' o8 e h1 h2 => hk c' o8 (by rw [mtY, if_neg (on2_f2 h94)]; exact e) h1 (by omega)) (fun v e => hr v (by rw [mtY, if_neg (on2_f2 h94)]; exact e))
          | exact ih (y + 1) c (by omega) (by omega) (by omega) (by omega) (fun c' o8 e h1 h2 => hk c' o8 (by rw [mtY, if_neg (on2_f1 h82)]; exact e) h1 (by omega)) (fun v e => hr v (by rw [mtY, if_neg (on2_f1 h82)]; exact e))
      · have h82 := q_b1.mp h82
        refine q_aload (n := 87) dX7_meets_85 rfl rfl ?_
        refine q_iload (n := 89) dX7_meets_87 rfl rfl ?_
        refine q_iload (n := 91) dX7_meets_89 rfl rfl ?_
        refine q_v2D (n := 94) dX7_meets_91 rfl (zC_passes _ _ _ b x y hb8 hlb hgb (by omega) (by omega)) vX0_passes lX7_206 rfl rfl (curN b hb8) rfl ?_
        refine q_if_eq (n := 97) (t := 122) dX7_meets_94 rfl (by decide) (fun h94 => ?_) (fun h94 => ?_)
        · have h94 := q_b0.mp h94
          refine q_iinc (n := 125) dX7_meets_122 rfl (Nat.le_of_ble_eq_true rfl) rfl (q_nwid ⟨by omega, by omega⟩) (q_s1_s (q_s1_s (q_s1_s (q_s1_s (q_s1_s (q_s1_s (q_s1_s (q_s1_1 rfl)))))))) ?_
          refine q_go (t := 66) dX7_meets_125 (by decide) ?_
          first
            | exact ih (y + 1) (c + 1) (by omega) (by omega) (by omega) (by omega) (fun c' o8 e h1 h2 => hk c' o8 (by rw [mtY, if_pos (on2_t h82 h94), if_neg h100]; exact e) h1 (by omega)) (fun v e => hr v (by rw [mtY, if_pos (on2_t h82 h94), if_neg h100]; exact e))
            | exact ih (y + 1) c (by omega) (by omega) (by omega) (by omega) (fun c' o8 e h1 h2 => hk c' o8 (by rw [mtY, if_neg (on2_f2 h94)]; exact e) h1 (by omega)) (fun v e => hr v (by rw [mtY, if_neg (on2_f2 h94)]; exact e))
            | exact ih (y + 1) c (by omega) (by omega) (by omega) (by omega) (fun c' o8 e h1 h2 => hk c' o8 (by rw [mtY, if_neg (on2_f1 h82)]; exact e) h1 (by omega)) (fun v e => hr v (by rw [mtY, if_neg (on2_f1 h82)]; exact e))
        · have h94 := q_b1.mp h94
          refine q_iload (n := 99) dX7_meets_97 rfl rfl ?_
          refine q_iload_n (n := 100) dX7_meets_99 rfl rfl ?_
          refine q_icmp_ne (n := 103) (t := 119) dX7_meets_100 rfl (by decide) (fun h100 => ?_) (fun h100 => ?_)
          · skip
            refine q_iinc (n := 122) dX7_meets_119 rfl (Nat.le_of_ble_eq_true rfl) rfl (q_nwid ⟨by omega, by omega⟩) (q_s1_s (q_s1_s (q_s1_s (q_s1_s (q_s1_s (q_s1_1 rfl)))))) ?_
            refine q_iinc (n := 125) dX7_meets_122 rfl (Nat.le_of_ble_eq_true rfl) rfl (q_nwid ⟨by omega, by omega⟩) (q_s1_s (q_s1_s (q_s1_s (q_s1_s (q_s1_s (q_s1_s (q_s1_s (q_s1_1 rfl)))))))) ?_
            refine q_go (t := 66) dX7_meets_125 (by decide) ?_
            first
              | exact ih (y + 1) (c + 1) (by omega) (by omega) (by omega) (by omega) (fun c' o8 e h1 h2 => hk c' o8 (by rw [mtY, if_pos (on2_t h82 h94), if_neg h100]; exact e) h1 (by omega)) (fun v e => hr v (by rw [mtY, if_pos (on2_t h82 h94), if_neg h100]; exact e))
              | exact ih (y + 1) c (by omega) (by omega) (by omega) (by omega) (fun c' o8 e h1 h2 => hk c' o8 (by rw [mtY, if_neg (on2_f2 h94)]; exact e) h1 (by omega)) (fun v e => hr v (by rw [mtY, if_neg (on2_f2 h94)]; exact e))
              | exact ih (y + 1) c (by omega) (by omega) (by omega) (by omega) (fun c' o8 e h1 h2 => hk c' o8 (by rw [mtY, if_neg (on2_f1 h82)]; exact e) h1 (by omega)) (fun v e => hr v (by rw [mtY, if_neg (on2_f1 h82)]; exact e))
          · skip
            refine q_sipush (n := 106) dX7_meets_103 rfl (k := ?_)
            refine q_iload (n := 108) dX7_meets_106 rfl rfl ?_
            refine q_bipush (n := 110) dX7_meets_108 rfl (k := ?_)
            refine q_iaddS (n := 111) dX7_meets_110 rfl ⟨by omega, by omega⟩ ?_
            refine q_imulS (n := 112) dX7_meets_111 rfl ⟨by omega, by omega⟩ ?_
            refine q_iload (n := 114) dX7_meets_112 rfl rfl ?_
            refine q_iaddS (n := 115) dX7_meets_114 rfl ⟨by omega, by omega⟩ ?_
            refine q_bipush (n := 117) dX7_meets_115 rfl (k := ?_)
            refine q_iaddS (n := 118) dX7_meets_117 rfl ⟨by omega, by omega⟩ ?_
            refine q_iret dX7_meets_118 rfl (fun _ => rfl) ?_
            exact hr _ (by rw [mtY, if_pos (on2_t h82 h94), if_pos h100])
set_option maxRecDepth 100000 in
theorem lpX7_mx (σ s : q_S) (a b k : Int) (ha8 : 0 ≤ a ∧ a < 8) (hb8 : 0 ≤ b ∧ b < 8) (hga : lG (σ 2) (6 * a)) (hgb : lG (σ 2) (6 * b)) (hla : laid s a (σ 2)) (hlb : laid s b (σ 2)) (hok : ¬ (¬ (0 ≤ a ∧ a < σ 1 1) ∨ ¬ (0 ≤ b ∧ b < σ 1 1) ∨ a = b ∨ k < -1)) : ∀ (n : Nat) (x c : Int) (o8 : Option q_V), (n : Int) + x = 21 → -20 ≤ x → 0 ≤ c → c ≤ 100000 - 41 * n → mtX (on2 (σ 2) a b) k n x c = mtX (on2 (σ 2) a b) k 41 (-20) 0 → q_WP mX7_meets shX 55 [some (.inr (.inr 0)), some (.inl a), some (.inl b), some (.inl k), some (.inr (.inr (96 + a))), some (.inr (.inr (96 + b))), some (.inl c), some (.inl x), o8] [] (ov σ s) (fun r σ' => r = some (.inl (fMeets (σ 1 1) (σ 2) a b k)) ∧ ∃ s', σ' = ov σ s') := by
  intro n
  induction n with
  | zero =>
    intro x c o8 hx h0 hc hc2 he
    rw [mtX] at he
    refine q_iload (n := 57) dX7_meets_55 rfl rfl ?_
    refine q_bipush (n := 59) dX7_meets_57 rfl (k := ?_)
    refine q_icmp_gt (n := 62) (t := 134) dX7_meets_59 rfl (by decide) (fun h59 => ?_) (fun h59 => ?_)
    · skip
      refine q_iload_n (n := 135) dX7_meets_134 rfl rfl ?_
      refine q_iconst (n := 136) dX7_meets_135 rfl (k := ?_)
      refine q_icmp_ne (n := 139) (t := 144) dX7_meets_136 rfl (by decide) (fun h136 => ?_) (fun h136 => ?_)
      · skip
        refine q_bipush (n := 146) dX7_meets_144 rfl (k := ?_)
        refine q_iret dX7_meets_146 rfl (fun _ => rfl) ?_
        unfold fMeets
        rw [if_neg hok, ← he]
        dsimp only
        first
          | (rw [if_pos (by assumption)]; exact ⟨rfl, _, rfl⟩)
          | (rw [if_neg (by assumption)]; exact ⟨rfl, _, rfl⟩)
      · skip
        refine q_iload (n := 141) dX7_meets_139 rfl rfl ?_
        refine q_go (t := 146) dX7_meets_141 (by decide) ?_
        refine q_iret dX7_meets_146 rfl (fun _ => rfl) ?_
        unfold fMeets
        rw [if_neg hok, ← he]
        dsimp only
        first
          | (rw [if_pos (by assumption)]; exact ⟨rfl, _, rfl⟩)
          | (rw [if_neg (by assumption)]; exact ⟨rfl, _, rfl⟩)
    · exact absurd h59 (by omega)
  | succ n ih =>
    intro x c o8 hx h0 hc hc2 he
    rw [mtX] at he
    refine q_iload (n := 57) dX7_meets_55 rfl rfl ?_
    refine q_bipush (n := 59) dX7_meets_57 rfl (k := ?_)
    refine q_icmp_gt (n := 62) (t := 134) dX7_meets_59 rfl (by decide) (fun h59 => ?_) (fun h59 => ?_)
    · exact absurd h59 (by omega)
    · skip
      refine q_bipush (n := 64) dX7_meets_62 rfl (k := ?_)
      refine q_istore (n := 66) dX7_meets_64 rfl (Nat.le_of_ble_eq_true rfl) (q_s1_s (q_s1_s (q_s1_s (q_s1_s (q_s1_s (q_s1_s (q_s1_s (q_s1_1 rfl)))))))) ?_
      refine lpX7_my σ s a b k x _ ha8 hb8 hga hgb hla hlb (by omega) 41 (-20) c (by decide) (by decide) hc (by omega) ?_ ?_
      · intro c' o8 e h1 h2
        refine q_iinc (n := 131) dX7_meets_128 rfl (Nat.le_of_ble_eq_true rfl) rfl (q_nwid ⟨by omega, by omega⟩) (q_s1_s (q_s1_s (q_s1_s (q_s1_s (q_s1_s (q_s1_s (q_s1_1 rfl))))))) ?_
        refine q_go (t := 55) dX7_meets_131 (by decide) ?_
        rw [e] at he
        exact ih (x + 1) c' o8 (by omega) (by omega) h1 (by omega) he
      · intro v e
        rw [e] at he
        dsimp only at he
        unfold fMeets
        rw [if_neg hok, ← he]
        exact ⟨rfl, _, rfl⟩
set_option maxRecDepth 100000 in
theorem zX7_meets (a b k : Int) (σ s : q_S) (hI : IX σ) : q_Ct mX7_meets shX [.inr (.inr 0), .inl a, .inl b, .inl k] (ov σ s) (fun r σ' => r = some (.inl (fMeets (σ 1 1) (σ 2) a b k)) ∧ ∃ s', σ' = ov σ s') := by
  refine q_ct 5 (by decide) rfl rfl ?_
  show q_WP mX7_meets shX 0 [some (.inr (.inr 0)), some (.inl a), some (.inl b), some (.inl k), none, none, none, none, none] [] (ov σ s) _
  have hn := hI.1.2.1
  refine q_aload_n (n := 1) dX7_meets_0 rfl rfl ?_
  refine q_getR (n := 4) dX7_meets_1 rfl fX7_12 xi0 rfl ?_
  refine q_iload_n (n := 5) dX7_meets_4 rfl rfl ?_
  refine q_v1D (n := 8) dX7_meets_5 rfl (zO_hasTrack _ _ _) vX3_hasTrack lX7_112 rfl rfl xi1 rfl ?_
  refine q_if_eq (n := 11) (t := 32) dX7_meets_8 rfl (by decide) (fun h8 => ?_) (fun h8 => ?_)
  · have h8 := q_b0.mp h8
    refine q_iconst (n := 33) dX7_meets_32 rfl (k := ?_)
    refine q_iret dX7_meets_33 rfl (fun _ => rfl) ?_
    unfold fMeets
    rw [if_pos (by omega)]
    exact ⟨rfl, _, rfl⟩
  · have h8 := q_b1.mp h8
    refine q_aload_n (n := 12) dX7_meets_11 rfl rfl ?_
    refine q_getR (n := 15) dX7_meets_12 rfl fX7_12 xi0 rfl ?_
    refine q_iload_n (n := 16) dX7_meets_15 rfl rfl ?_
    refine q_v1D (n := 19) dX7_meets_16 rfl (zO_hasTrack _ _ _) vX3_hasTrack lX7_112 rfl rfl xi1 rfl ?_
    refine q_if_eq (n := 22) (t := 32) dX7_meets_19 rfl (by decide) (fun h19 => ?_) (fun h19 => ?_)
    · have h19 := q_b0.mp h19
      refine q_iconst (n := 33) dX7_meets_32 rfl (k := ?_)
      refine q_iret dX7_meets_33 rfl (fun _ => rfl) ?_
      unfold fMeets
      rw [if_pos (by omega)]
      exact ⟨rfl, _, rfl⟩
    · have h19 := q_b1.mp h19
      have ha8 : 0 ≤ a ∧ a < 8 := by omega
      have hb8 : 0 ≤ b ∧ b < 8 := by omega
      refine q_iload_n (n := 23) dX7_meets_22 rfl rfl ?_
      refine q_iload_n (n := 24) dX7_meets_23 rfl rfl ?_
      refine q_icmp_eq (n := 27) (t := 32) dX7_meets_24 rfl (by decide) (fun h24 => ?_) (fun h24 => ?_)
      · skip
        refine q_iconst (n := 33) dX7_meets_32 rfl (k := ?_)
        refine q_iret dX7_meets_33 rfl (fun _ => rfl) ?_
        unfold fMeets
        rw [if_pos (by omega)]
        exact ⟨rfl, _, rfl⟩
      · skip
        refine q_iload_n (n := 28) dX7_meets_27 rfl rfl ?_
        refine q_iconst (n := 29) dX7_meets_28 rfl (k := ?_)
        refine q_icmp_ge (n := 32) (t := 34) dX7_meets_29 rfl (by decide) (fun h29 => ?_) (fun h29 => ?_)
        · skip
          refine q_aload_n (n := 35) dX7_meets_34 rfl rfl ?_
          refine q_iload_n (n := 36) dX7_meets_35 rfl rfl ?_
          refine q_v1D (n := 39) dX7_meets_36 rfl (zX7_curveOf σ _ a hI (by omega)) vX7_curveOf lX7_116 rfl rfl xi0 rfl ?_
          refine q_astore (n := 41) dX7_meets_39 rfl (Nat.le_of_ble_eq_true rfl) (q_s1_s (q_s1_s (q_s1_s (q_s1_1 rfl)))) ?_
          refine q_aload_n (n := 42) dX7_meets_41 rfl rfl ?_
          refine q_iload_n (n := 43) dX7_meets_42 rfl rfl ?_
          refine q_v1D (n := 46) dX7_meets_43 rfl (zX7_curveOf σ _ b hI (by omega)) vX7_curveOf lX7_116 rfl rfl xi0 rfl ?_
          refine q_astore (n := 48) dX7_meets_46 rfl (Nat.le_of_ble_eq_true rfl) (q_s1_s (q_s1_s (q_s1_s (q_s1_s (q_s1_1 rfl))))) ?_
          refine q_iconst (n := 49) dX7_meets_48 rfl (k := ?_)
          refine q_istore (n := 51) dX7_meets_49 rfl (Nat.le_of_ble_eq_true rfl) (q_s1_s (q_s1_s (q_s1_s (q_s1_s (q_s1_s (q_s1_1 rfl)))))) ?_
          refine q_bipush (n := 53) dX7_meets_51 rfl (k := ?_)
          refine q_istore (n := 55) dX7_meets_53 rfl (Nat.le_of_ble_eq_true rfl) (q_s1_s (q_s1_s (q_s1_s (q_s1_s (q_s1_s (q_s1_s (q_s1_1 rfl))))))) ?_
          exact lpX7_mx σ _ a b k ha8 hb8 (hI.pt h8) (hI.pt h19) (laid_keep laid_cvl) laid_cvl (by omega) 41 (-20) 0 _ (by decide) (by decide) (by decide) (by decide) rfl
        · skip
          refine q_iconst (n := 33) dX7_meets_32 rfl (k := ?_)
          refine q_iret dX7_meets_33 rfl (fun _ => rfl) ?_
          unfold fMeets
          rw [if_pos (by omega)]
          exact ⟨rfl, _, rfl⟩
