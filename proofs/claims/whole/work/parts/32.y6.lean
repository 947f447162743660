theorem rt_ok {v : Int} (h : 0 ≤ v ∧ v ≤ 4000000000000000000) : 0 ≤ rt v ∧ rt v * rt v ≤ v ∧ v < (rt v + 1) * (rt v + 1) := by
  have h2 : ((0 : Int) + 2 ^ 31) * (0 + 2 ^ 31) = 4611686018427387904 := by decide
  exact rtl_ok 31 0 v (by decide) (by omega) (by omega)
theorem rt_bd2 {v : Int} (h : 0 ≤ v ∧ v ≤ 14400000000000000) : 0 ≤ rt v ∧ rt v ≤ 200000000 := by
  have h1 := rt_ok (v := v) (by omega)
  refine ⟨h1.1, ?_⟩
  by_cases e : rt v ≤ 200000000
  · exact e
  · have h2 := Int.mul_le_mul (show (200000001 : Int) ≤ rt v by omega) (show (200000001 : Int) ≤ rt v by omega) (by decide) (by omega)
    omega
theorem rt_bd {v : Int} (h : 0 ≤ v ∧ v ≤ 900000000000000) : 0 ≤ rt v ∧ rt v ≤ 30000000 := by
  have h1 := rt_ok (v := v) (by omega)
  refine ⟨h1.1, ?_⟩
  by_cases e : rt v ≤ 30000000
  · exact e
  · have h2 := Int.mul_le_mul (show (30000001 : Int) ≤ rt v by omega) (show (30000001 : Int) ≤ rt v by omega) (by decide) (by omega)
    omega
theorem engy_bd {f : Int → Int} {F x y t k : Int} (hg : lG f (6 * t)) (hB : lB f (6 * t) ≠ 0) (hF : q_bd F 9) (hx : q_bd x 20) (hy : q_bd y 20) (hk : 0 ≤ k ∧ k < 12) : 0 ≤ engy f F x y t k ∧ engy f F x y t k ≤ 30000000 := by
  have hpx := pXY_div hg hB hF hx hy
  have hst := stren_bd hpx.2.1 hpx.2.2
  have hm := bd_mul (mss_bd hk) (mss_bd hk) (C := 14400) (by decide)
  have hm0 := sq0 (mss k)
  unfold engy
  unfold q_bd at hm
  exact rt_bd (by omega)
def tlL (kd g : Int → Int) : Nat → Int → Bool
  | 0, _ => true
  | n + 1, i => if kd (g i) = 12 then false else tlL kd g n (i + 1)
theorem tlL_at {kd g : Int → Int} : ∀ (n : Nat) (i : Int), tlL kd g n i = true → ∀ j, i ≤ j → j < i + n → kd (g j) ≠ 12 := by
  intro n
  induction n with
  | zero => intro i _ j h1 h2; omega
  | succ n ih =>
    intro i h j h1 h2
    rw [tlL] at h
    by_cases e : kd (g i) = 12
    · rw [if_pos e] at h
      cases h
    · rw [if_neg e] at h
      by_cases e2 : j = i
      · rw [e2]; exact e
      · exact ih (i + 1) h j (by omega) (by omega)
def tlb (kd : Int → Int) (nt a o : Int) : Bool := tlL kd (mF a o nt) (mC a o nt).toNat 0
theorem tlb_at {kd : Int → Int} {nt a o : Int} (h : tlb kd nt a o = true) {j : Int} (hj : 0 ≤ j ∧ j < mC a o nt) : kd (mF a o nt j) ≠ 12 := tlL_at _ _ h j hj.1 (by omega)
def htL (f : Int → Int) (F x y a : Int) (kd g : Int → Int) : Nat → Int → Int → Int
  | 0, _, h => h
  | n + 1, i, h => htL f F x y a kd g n (i + 1) (h + (if g i = a then engy f F x y (g i) (kd (g i)) else -engy f F x y (g i) (kd (g i))))
def hev (f kd : Int → Int) (nt x y a o F : Int) : Int := htL f F x y a kd (mF a o nt) (mC a o nt).toNat 0 0
theorem htL_bd {f : Int → Int} {F x y a : Int} {kd g : Int → Int} (hF : q_bd F 9) (hx : q_bd x 20) (hy : q_bd y 20) : ∀ (n : Nat) (i h : Int), (∀ j, i ≤ j → j < i + n → (lG f (6 * g j) ∧ lB f (6 * g j) ≠ 0) ∧ 0 ≤ kd (g j) ∧ kd (g j) < 12) → (h - 30000000 * n ≤ htL f F x y a kd g n i h ∧ htL f F x y a kd g n i h ≤ h + 30000000 * n) := by
  intro n
  induction n with
  | zero => intro i h _; simp [htL]
  | succ n ih =>
    intro i h hg
    obtain ⟨⟨g1, g2⟩, g3⟩ := hg i (by omega) (by omega)
    have he := engy_bd g1 g2 hF hx hy g3
    rw [htL]
    have := ih (i + 1) (h + (if g i = a then engy f F x y (g i) (kd (g i)) else -engy f F x y (g i) (kd (g i)))) (fun j h1 h2 => hg j (by omega) (by omega))
    split at this <;> split <;> first | omega | (exfalso; contradiction)
def ab (x : Int) : Int := if 0 ≤ x then x else -x
def nnL (m : Int) : Nat → Int → Int × Int → Int × Int
  | 0, _, s => s
  | n + 1, i, s => nnL m n (i + 1) (if num i 0 = 0 ∧ ab (mss i - m) < s.1 then (ab (mss i - m), i) else s)
def nnr (m : Int) : Int := (nnL m 12 0 (9223372036854775807, -1)).2
def msv (h s : Int) : Int := if h * h - s < 0 then -1 else rt (h * h - s)
def evL (g : Int → Int) : Nat → Int → Int × Int → Int × Int
  | 0, _, s => s
  | n + 1, i, s => evL g n (i + 1) (if ab (g i) < s.1 then (ab (g i), i) else s)
def tnF (f : Int → Int) (F x y : Int) (g : Int → Int) (i : Int) : Int := lowG (if i % 4 / 2 = 0 then pX f F y (g (i / 4)) else pY f F x (g (i / 4))) (un f (g (i / 4))) (i % 2)
def inL (tn : Int → Int) (p sz : Int) : Nat → Int → (Int → Int) → Int × (Int → Int)
  | 0, i, g => (i, g)
  | n + 1, i, g => if p + i < sz then inL tn p sz n (i + 1) (fun j => if j = p + i then tn i else g j) else (i, g)
def jgL (tn g : Int → Int) (p sz : Int) : Nat → Int → Int
  | 0, _ => -2
  | n + 1, i => if ¬ p + i < sz then 100 + i / 4 else if g (p + i) ≠ tn i then i / 4 else jgL tn g p sz n (i + 1)
def hot (nt nv : Int) (f kd as os : Int → Int) (v : Int) : Prop := ((0 ≤ v ∧ v < nv) ∧ balb f nt (as v) (os v) = true) ∧ as v ≠ -1 ∧ tlb kd nt (as v) (os v) = true
def hotB (nt nv : Int) (f kd as os : Int → Int) (v : Int) : Bool := (decide ((0 ≤ v ∧ v < nv) ∧ as v ≠ -1) && balb f nt (as v) (os v)) && tlb kd nt (as v) (os v)
theorem hotB_t {nt nv : Int} {f kd as os : Int → Int} {v : Int} : hotB nt nv f kd as os v = true ↔ hot nt nv f kd as os v := by
  unfold hotB hot
  rw [Bool.and_eq_true, Bool.and_eq_true, decide_eq_true_eq]
  exact ⟨fun h => ⟨⟨h.1.1.1, h.1.2⟩, h.1.1.2, h.2⟩, fun h => ⟨⟨⟨h.1.1, h.2.1⟩, h.1.2⟩, h.2.2⟩⟩
def fHeat (F nt nv : Int) (f kd xs ys as os : Int → Int) (v w : Int) : Int := if (0 ≤ w ∧ w ≤ 2) ∧ hotB nt nv f kd as os v = true then (if w = 0 then hev f kd nt (xs v) (ys v) (as v) (os v) F else if w = 1 ∨ msv (hev f kd nt (xs v) (ys v) (as v) (os v) F) (stren (lsb f F nt (xs v) (ys v) (as v) (os v) (-1)).1 (lsb f F nt (xs v) (ys v) (as v) (os v) (-1)).2.1 (lsb f F nt (xs v) (ys v) (as v) (os v) (-1)).2.2) < 0 then msv (hev f kd nt (xs v) (ys v) (as v) (os v) F) (stren (lsb f F nt (xs v) (ys v) (as v) (os v) (-1)).1 (lsb f F nt (xs v) (ys v) (as v) (os v) (-1)).2.1 (lsb f F nt (xs v) (ys v) (as v) (os v) (-1)).2.2) else nnr (msv (hev f kd nt (xs v) (ys v) (as v) (os v) F) (stren (lsb f F nt (xs v) (ys v) (as v) (os v) (-1)).1 (lsb f F nt (xs v) (ys v) (as v) (os v) (-1)).2.1 (lsb f F nt (xs v) (ys v) (as v) (os v) (-1)).2.2))) else -9223372036854775808
def fEvens (nt nv : Int) (f kd xs ys as os : Int → Int) (v : Int) : Int := if ¬ (0 ≤ v ∧ v < nv) then -1 else if ¬ hotB nt nv f kd as os v = true then -5 else (evL (hev f kd nt (xs v) (ys v) (as v) (os v)) 8 2 (ab (hev f kd nt (xs v) (ys v) (as v) (os v) 1), 1)).2
set_option maxRecDepth 100000 in
theorem lpX7_hh (σ s : q_S) (v : Int) (hI : IX σ) (hv : 0 ≤ v ∧ v < σ 1 2) (hn : 0 ≤ σ 1 1 ∧ σ 1 1 ≤ 8) (hc : mC (σ 6 v) (σ 7 v) (σ 1 1) ≤ 4) (hm : (∀ j, 0 ≤ j → j < mC (σ 6 v) (σ 7 v) (σ 1 1) → s 83 j = mF (σ 6 v) (σ 7 v) (σ 1 1) j)) : ∀ (n : Nat) (i : Int), (n : Int) + i = mC (σ 6 v) (σ 7 v) (σ 1 1) → 0 ≤ i → q_WP mX7_hasHeat shX 38 [some (.inr (.inr 0)), some (.inl v), some (.inl (mC (σ 6 v) (σ 7 v) (σ 1 1))), some (.inl i)] [] (ov σ s) (fun r σ' => ∃ z, r = some z ∧ (z = .inl (if tlL (σ 3) (mF (σ 6 v) (σ 7 v) (σ 1 1)) n i = true then 1 else 0) ∧ ∃ s', σ' = ov σ s')) := by
  intro n
  induction n with
  | zero =>
    intro i hi h0
    refine q_iload_n (n := 39) dX7_hasHeat_38 rfl rfl ?_
    refine q_iload_n (n := 40) dX7_hasHeat_39 rfl rfl ?_
    refine q_icmp_ge (n := 43) (t := 70) dX7_hasHeat_40 rfl (by decide) (fun h40 => ?_) (fun h40 => ?_)
    · skip
      refine q_iconst (n := 71) dX7_hasHeat_70 rfl (k := ?_)
      refine q_iret dX7_hasHeat_71 rfl (fun _ => rfl) ?_
      exact ⟨_, rfl, rfl, _, rfl⟩
    · exact absurd h40 (by omega)
  | succ n ih =>
    intro i hi h0
    have ht0 := hI.mem hv (j := i) ⟨h0, by omega⟩
    have hmi := hm i h0 (by omega)
    obtain ⟨t, ht⟩ : ∃ t, t = mF (σ 6 v) (σ 7 v) (σ 1 1) i := ⟨_, rfl⟩
    rw [← ht] at ht0 hmi
    have ht8 : 0 ≤ t ∧ t < 8 := by omega
    refine q_iload_n (n := 39) dX7_hasHeat_38 rfl rfl ?_
    refine q_iload_n (n := 40) dX7_hasHeat_39 rfl rfl ?_
    refine q_icmp_ge (n := 43) (t := 70) dX7_hasHeat_40 rfl (by decide) (fun h40 => ?_) (fun h40 => ?_)
    · exact absurd h40 (by omega)
    · skip
      refine q_aload_n (n := 44) dX7_hasHeat_43 rfl rfl ?_
      refine q_getR (n := 47) dX7_hasHeat_44 rfl fX7_12 xi0 rfl ?_
      refine q_getR (n := 50) dX7_hasHeat_47 rfl fX7_123 xi1 rfl ?_
      refine q_aload_n (n := 51) dX7_hasHeat_50 rfl rfl ?_
      refine q_getR (n := 54) dX7_hasHeat_51 rfl fX7_48 xi0 rfl ?_
      refine q_iload_n (n := 55) dX7_hasHeat_54 rfl rfl ?_
      refine q_ialoadE (t) (n := 56) dX7_hasHeat_55 rfl xi83 ⟨by omega, by omega⟩ hmi ?_
      refine q_ialoadF (σ 3) (n := 57) dX7_hasHeat_56 rfl xi3 ⟨by omega, by omega⟩ rfl ?_
      refine q_bipush (n := 59) dX7_hasHeat_57 rfl (k := ?_)
      refine q_icmp_ne (n := 62) (t := 64) dX7_hasHeat_59 rfl (by decide) (fun h59 => ?_) (fun h59 => ?_)
      · skip
        refine q_iinc (n := 67) dX7_hasHeat_64 rfl (Nat.le_of_ble_eq_true rfl) rfl (q_nwid ⟨by omega, by omega⟩) (q_s1_s (q_s1_s (q_s1_1 rfl))) ?_
        refine q_go (t := 38) dX7_hasHeat_67 (by decide) ?_
        rw [tlL, ← ht, if_neg h59]
        exact ih (i + 1) (by omega) (by omega)
      · skip
        refine q_iconst (n := 63) dX7_hasHeat_62 rfl (k := ?_)
        refine q_iret dX7_hasHeat_63 rfl (fun _ => rfl) ?_
        exact ⟨_, rfl, by rw [tlL, ← ht, if_pos h59]; rfl, _, rfl⟩
set_option maxRecDepth 100000 in
theorem zX7_hasHeat (v : Int) (σ s : q_S) (hI : IX σ) : q_Ct mX7_hasHeat shX [.inr (.inr 0), .inl v] (ov σ s) (fun r σ' => ∃ z, r = some z ∧ (z = .inl (if hotB (σ 1 1) (σ 1 2) (σ 2) (σ 3) (σ 6) (σ 7) v = true then 1 else 0) ∧ ∃ s', σ' = ov σ s')) := by
  refine q_ct 2 (by decide) rfl rfl ?_
  show q_WP mX7_hasHeat shX 0 [some (.inr (.inr 0)), some (.inl v), none, none] [] (ov σ s) _
  have hI0 := hI
  have hvv := hI.1.2.2.1
  refine q_aload_n (n := 1) dX7_hasHeat_0 rfl rfl ?_
  refine q_iload_n (n := 2) dX7_hasHeat_1 rfl rfl ?_
  refine q_v1 (n := 5) dX7_hasHeat_2 rfl (zX7_hasBalance v _ _ hI0) vX7_hasBalance lX7_224 rfl rfl xi0 rfl (fun v2 σ2 h2 => ?_)
  obtain ⟨rfl, s1, rfl⟩ := h2
  · skip
    refine q_if_eq (n := 8) (t := 21) dX7_hasHeat_5 rfl (by decide) (fun h5 => ?_) (fun h5 => ?_)
    · have h5 := q_b0.mp h5
      refine q_iconst (n := 22) dX7_hasHeat_21 rfl (k := ?_)
      refine q_iret dX7_hasHeat_22 rfl (fun _ => rfl) ?_
      exact ⟨_, rfl, by first | rw [if_neg (fun z => h5 (hotB_t.mp z).1)] | rw [if_neg (fun z => (hotB_t.mp z).2.1 h18)], _, rfl⟩
    · have h5 := q_b1.mp h5
      obtain ⟨hv, hb⟩ := h5
      have hvt := hI0.tie hv
      have hn := hI0.1.2.1
      have hc := mem_C hn hvt.2.2
      refine q_aload_n (n := 9) dX7_hasHeat_8 rfl rfl ?_
      refine q_getR (n := 12) dX7_hasHeat_9 rfl fX7_12 xi0 rfl ?_
      refine q_getR (n := 15) dX7_hasHeat_12 rfl fX7_144 xi1 rfl ?_
      refine q_iload_n (n := 16) dX7_hasHeat_15 rfl rfl ?_
      refine q_ialoadF (σ 6) (n := 17) dX7_hasHeat_16 rfl xi6 ⟨by omega, by omega⟩ rfl ?_
      refine q_iconst (n := 18) dX7_hasHeat_17 rfl (k := ?_)
      refine q_icmp_ne (n := 21) (t := 23) dX7_hasHeat_18 rfl (by decide) (fun h18 => ?_) (fun h18 => ?_)
      · skip
        refine q_aload_n (n := 24) dX7_hasHeat_23 rfl rfl ?_
        refine q_getR (n := 27) dX7_hasHeat_24 rfl fX7_12 xi0 rfl ?_
        refine q_iload_n (n := 28) dX7_hasHeat_27 rfl rfl ?_
        refine q_aload_n (n := 29) dX7_hasHeat_28 rfl rfl ?_
        refine q_getR (n := 32) dX7_hasHeat_29 rfl fX7_48 xi0 rfl ?_
        refine q_v2 (n := 35) dX7_hasHeat_32 rfl (zC_members _ _ v hI0 hv) vX3_membersOf lX7_327 rfl rfl xi1 rfl (fun v32 σ32 h32 => ?_)
        obtain ⟨rfl, s2, rfl, hm, ho⟩ := h32
        · skip
          refine q_istore_n (n := 36) dX7_hasHeat_35 rfl (Nat.le_of_ble_eq_true rfl) (q_s1_s (q_s1_1 rfl)) ?_
          refine q_iconst (n := 37) dX7_hasHeat_36 rfl (k := ?_)
          refine q_istore_n (n := 38) dX7_hasHeat_37 rfl (Nat.le_of_ble_eq_true rfl) (q_s1_s (q_s1_s (q_s1_1 rfl))) ?_
          refine (lpX7_hh σ s2 v hI hv hn hc.1.2 hm (mC (σ 6 v) (σ 7 v) (σ 1 1)).toNat 0 (by omega) (by omega)).imp ?_
          rintro r σ2 ⟨z, h1, h2, h3⟩
          refine ⟨z, h1, ?_, h3⟩
          rw [h2]
          by_cases e : tlL (σ 3) (mF (σ 6 v) (σ 7 v) (σ 1 1)) (mC (σ 6 v) (σ 7 v) (σ 1 1)).toNat 0 = true
          · rw [if_pos e, if_pos (hotB_t.mpr ⟨⟨hv, hb⟩, h18, e⟩)]
          · rw [if_neg e, if_neg (fun z => e (hotB_t.mp z).2.2)]
      · skip
        refine q_iconst (n := 22) dX7_hasHeat_21 rfl (k := ?_)
        refine q_iret dX7_hasHeat_22 rfl (fun _ => rfl) ?_
        exact ⟨_, rfl, by first | rw [if_neg (fun z => h5 (hotB_t.mp z).1)] | rw [if_neg (fun z => (hotB_t.mp z).2.1 h18)], _, rfl⟩
set_option maxHeartbeats 1000000 in
set_option maxRecDepth 100000 in
theorem lpX7_ht (σ : q_S) (v F : Int) (hI0 : IX σ) (hF : q_bd F 9) (hh : hotB (σ 1 1) (σ 1 2) (σ 2) (σ 3) (σ 6) (σ 7) v = true) (hv : 0 ≤ v ∧ v < σ 1 2) : ∀ (n : Nat) (i e0 : Int) (s : q_S) (o7 o8 o9 : Option q_V), (n : Int) + i = mC (σ 6 v) (σ 7 v) (σ 1 1) → 0 ≤ i → (∀ j, 0 ≤ j → j < mC (σ 6 v) (σ 7 v) (σ 1 1) → s 83 j = mF (σ 6 v) (σ 7 v) (σ 1 1) j) → (-30000000 * i ≤ e0 ∧ e0 ≤ 30000000 * i) → q_WP mX7_heatBy shX 19 [some (.inr (.inr 0)), some (.inl v), some (.inl F), some (.inl (mC (σ 6 v) (σ 7 v) (σ 1 1))), some (.inr (.inl e0)), none, some (.inl i), o7, o8, o9, none] [] (ov σ s) (fun r σ' => r = some (.inr (.inl (htL (σ 2) F (σ 4 v) (σ 5 v) (σ 6 v) (σ 3) (mF (σ 6 v) (σ 7 v) (σ 1 1)) n i e0))) ∧ ∃ s', σ' = ov σ s') := by
  have hh2 := hotB_t.mp hh
  have hb := hh2.1.2
  have hvt := hI0.tie hv
  have hn := hI0.1.2.1
  have hvv := hI0.1.2.2.1
  have hc := mem_C hn hvt.2.2
  intro n
  induction n with
  | zero =>
    intro i e0 s o7 o8 o9 hi h0 hm he0
    refine q_iload (n := 21) dX7_heatBy_19 rfl rfl ?_
    refine q_iload_n (n := 22) dX7_heatBy_21 rfl rfl ?_
    refine q_icmp_ge (n := 25) (t := 111) dX7_heatBy_22 rfl (by decide) (fun h22 => ?_) (fun h22 => ?_)
    · skip
      refine q_lload (n := 113) dX7_heatBy_111 rfl rfl ?_
      refine q_lret dX7_heatBy_113 rfl ?_
      exact ⟨rfl, _, rfl⟩
    · exact absurd h22 (by omega)
  | succ n ih =>
    intro i e0 s o7 o8 o9 hi h0 hm he0
    have ht0 := hI0.mem hv (j := i) ⟨h0, by omega⟩
    have hmi := hm i h0 (by omega)
    obtain ⟨t, ht⟩ : ∃ t, t = mF (σ 6 v) (σ 7 v) (σ 1 1) i := ⟨_, rfl⟩
    rw [← ht] at ht0 hmi
    have ht8 : 0 ≤ t ∧ t < 8 := by omega
    have hg := hI0.pt ht0
    have hB := balb_at hb (j := i) ⟨h0, by omega⟩
    have hkd := hI0.1.2.2.2.2.1 t ht0.1 ht0.2
    have hkt := tlb_at hh2.2.2 (j := i) ⟨h0, by omega⟩
    rw [← ht] at hB hkt
    have hk : 0 ≤ σ 3 t ∧ σ 3 t < 12 := by omega
    have hen := engy_bd hg hB hF hvt.1 hvt.2.1 hk
    refine q_iload (n := 21) dX7_heatBy_19 rfl rfl ?_
    refine q_iload_n (n := 22) dX7_heatBy_21 rfl rfl ?_
    refine q_icmp_ge (n := 25) (t := 111) dX7_heatBy_22 rfl (by decide) (fun h22 => ?_) (fun h22 => ?_)
    · exact absurd h22 (by omega)
    · skip
      refine q_aload_n (n := 26) dX7_heatBy_25 rfl rfl ?_
      refine q_getR (n := 29) dX7_heatBy_26 rfl fX7_48 xi0 rfl ?_
      refine q_iload (n := 31) dX7_heatBy_29 rfl rfl ?_
      refine q_ialoadE (t) (n := 32) dX7_heatBy_31 rfl xi83 ⟨by omega, by omega⟩ hmi ?_
      refine q_istore (n := 34) dX7_heatBy_32 rfl (Nat.le_of_ble_eq_true rfl) (q_s1_s (q_s1_s (q_s1_s (q_s1_s (q_s1_s (q_s1_s (q_s1_1 rfl))))))) ?_
      refine q_aload_n (n := 35) dX7_heatBy_34 rfl rfl ?_
      refine q_iload (n := 37) dX7_heatBy_35 rfl rfl ?_
      refine q_aload_n (n := 38) dX7_heatBy_37 rfl rfl ?_
      refine q_getR (n := 41) dX7_heatBy_38 rfl fX7_12 xi0 rfl ?_
      refine q_getR (n := 44) dX7_heatBy_41 rfl fX7_138 xi1 rfl ?_
      refine q_iload_n (n := 45) dX7_heatBy_44 rfl rfl ?_
      refine q_ialoadF (σ 4) (n := 46) dX7_heatBy_45 rfl xi4 ⟨by omega, by omega⟩ rfl ?_
      refine q_aload_n (n := 47) dX7_heatBy_46 rfl rfl ?_
      refine q_getR (n := 50) dX7_heatBy_47 rfl fX7_12 xi0 rfl ?_
      refine q_getR (n := 53) dX7_heatBy_50 rfl fX7_141 xi1 rfl ?_
      refine q_iload_n (n := 54) dX7_heatBy_53 rfl rfl ?_
      refine q_ialoadF (σ 5) (n := 55) dX7_heatBy_54 rfl xi5 ⟨by omega, by omega⟩ rfl ?_
      refine q_iload_n (n := 56) dX7_heatBy_55 rfl rfl ?_
      refine q_v4 (n := 59) dX7_heatBy_56 rfl (zX7_pushOf t (σ 4 v) (σ 5 v) F _ _ hI0 ht0 hB hvt.1 hvt.2.1 hF) vX7_pushOf lX7_213 rfl rfl xi0 rfl (fun v56 σ56 h56 => ?_)
      obtain ⟨rfl, s2, rfl, hps, h83, _⟩ := h56
      · skip
        refine q_astore (n := 61) dX7_heatBy_59 rfl (Nat.le_of_ble_eq_true rfl) (q_s1_s (q_s1_s (q_s1_s (q_s1_s (q_s1_s (q_s1_s (q_s1_s (q_s1_1 rfl)))))))) ?_
        refine q_aload (n := 63) dX7_heatBy_61 rfl rfl ?_
        refine q_aload_n (n := 64) dX7_heatBy_63 rfl rfl ?_
        refine q_getR (n := 67) dX7_heatBy_64 rfl fX7_12 xi0 rfl ?_
        refine q_getR (n := 70) dX7_heatBy_67 rfl fX7_123 xi1 rfl ?_
        refine q_iload (n := 72) dX7_heatBy_70 rfl rfl ?_
        refine q_ialoadF (σ 3) (n := 73) dX7_heatBy_72 rfl xi3 ⟨by omega, by omega⟩ rfl ?_
        refine q_c2D (n := 76) dX7_heatBy_73 rfl (zX7_energyOf (σ 3 t) (σ 2) F (σ 4 v) (σ 5 v) t _ _ hk hps hg hB hF hvt.1 hvt.2.1) vX7_energyOf lX7_274 rfl rfl ?_
        refine q_lstore (n := 78) dX7_heatBy_76 rfl (Nat.le_of_ble_eq_true rfl) (q_s2_s (q_s2_s (q_s2_s (q_s2_s (q_s2_s (q_s2_s (q_s2_s (q_s2_s (q_s2_1 rfl))))))))) ?_
        refine q_lload (n := 80) dX7_heatBy_78 rfl rfl ?_
        refine q_iload (n := 82) dX7_heatBy_80 rfl rfl ?_
        refine q_aload_n (n := 83) dX7_heatBy_82 rfl rfl ?_
        refine q_getR (n := 86) dX7_heatBy_83 rfl fX7_12 xi0 rfl ?_
        refine q_getR (n := 89) dX7_heatBy_86 rfl fX7_144 xi1 rfl ?_
        refine q_iload_n (n := 90) dX7_heatBy_89 rfl rfl ?_
        refine q_ialoadF (σ 6) (n := 91) dX7_heatBy_90 rfl xi6 ⟨by omega, by omega⟩ rfl ?_
        refine q_icmp_ne (n := 94) (t := 99) dX7_heatBy_91 rfl (by decide) (fun h91 => ?_) (fun h91 => ?_)
        · skip
          refine q_lload (n := 101) dX7_heatBy_99 rfl rfl ?_
          refine q_lnegS (n := 102) dX7_heatBy_101 rfl (by unfold q_i64; omega) ?_
          refine q_laddS (n := 103) dX7_heatBy_102 rfl (by unfold q_i64; omega) ?_
          refine q_lstore (n := 105) dX7_heatBy_103 rfl (Nat.le_of_ble_eq_true rfl) (q_s2_s (q_s2_s (q_s2_s (q_s2_1 rfl)))) ?_
          refine q_iinc (n := 108) dX7_heatBy_105 rfl (Nat.le_of_ble_eq_true rfl) rfl (q_nwid ⟨by omega, by omega⟩) (q_s1_s (q_s1_s (q_s1_s (q_s1_s (q_s1_s (q_s1_1 rfl)))))) ?_
          refine q_go (t := 19) dX7_heatBy_108 (by decide) ?_
          rw [htL, ← ht]
          first
            | (rw [if_pos h91]
               exact ih (i + 1) _ _ _ _ _ (by omega) (by omega) (fun j h1 h2 => by rw [h83]; exact hm j h1 h2) (by omega))
            | (rw [if_neg h91]
               exact ih (i + 1) _ _ _ _ _ (by omega) (by omega) (fun j h1 h2 => by rw [h83]; exact hm j h1 h2) (by omega))
        · skip
          refine q_lload (n := 96) dX7_heatBy_94 rfl rfl ?_
          refine q_go (t := 102) dX7_heatBy_96 (by decide) ?_
          refine q_laddS (n := 103) dX7_heatBy_102 rfl (by unfold q_i64; omega) ?_
          refine q_lstore (n := 105) dX7_heatBy_103 rfl (Nat.le_of_ble_eq_true rfl) (q_s2_s (q_s2_s (q_s2_s (q_s2_1 rfl)))) ?_
          refine q_iinc (n := 108) dX7_heatBy_105 rfl (Nat.le_of_ble_eq_true rfl) rfl (q_nwid ⟨by omega, by omega⟩) (q_s1_s (q_s1_s (q_s1_s (q_s1_s (q_s1_s (q_s1_1 rfl)))))) ?_
          refine q_go (t := 19) dX7_heatBy_108 (by decide) ?_
          rw [htL, ← ht]
          first
            | (rw [if_pos h91]
               exact ih (i + 1) _ _ _ _ _ (by omega) (by omega) (fun j h1 h2 => by rw [h83]; exact hm j h1 h2) (by omega))
            | (rw [if_neg h91]
               exact ih (i + 1) _ _ _ _ _ (by omega) (by omega) (fun j h1 h2 => by rw [h83]; exact hm j h1 h2) (by omega))
set_option maxRecDepth 100000 in
theorem zX7_heatBy (v F : Int) (σ s : q_S) (hI : IX σ) (hF : q_bd F 9) (hh : hotB (σ 1 1) (σ 1 2) (σ 2) (σ 3) (σ 6) (σ 7) v = true) (hv : 0 ≤ v ∧ v < σ 1 2) : q_Ct mX7_heatBy shX [.inr (.inr 0), .inl v, .inl F] (ov σ s) (fun r σ' => ∃ z, r = some z ∧ (z = .inr (.inl (hev (σ 2) (σ 3) (σ 1 1) (σ 4 v) (σ 5 v) (σ 6 v) (σ 7 v) (F))) ∧ ∃ s', σ' = ov σ s')) := by
  refine q_ct 8 (by decide) rfl rfl ?_
  show q_WP mX7_heatBy shX 0 [some (.inr (.inr 0)), some (.inl v), some (.inl F), none, none, none, none, none, none, none, none] [] (ov σ s) _
  have hI0 := hI
  have hvt := hI0.tie hv
  have hn := hI0.1.2.1
  have hvv := hI0.1.2.2.1
  have hc := mem_C hn hvt.2.2
  refine q_aload_n (n := 1) dX7_heatBy_0 rfl rfl ?_
  refine q_getR (n := 4) dX7_heatBy_1 rfl fX7_12 xi0 rfl ?_
  refine q_iload_n (n := 5) dX7_heatBy_4 rfl rfl ?_
  refine q_aload_n (n := 6) dX7_heatBy_5 rfl rfl ?_
  refine q_getR (n := 9) dX7_heatBy_6 rfl fX7_48 xi0 rfl ?_
  refine q_v2 (n := 12) dX7_heatBy_9 rfl (zC_members _ _ v hI0 hv) vX3_membersOf lX7_327 rfl rfl xi1 rfl (fun v9 σ9 h9 => ?_)
  obtain ⟨rfl, s1, rfl, hm, ho⟩ := h9
  · skip
    refine q_istore_n (n := 13) dX7_heatBy_12 rfl (Nat.le_of_ble_eq_true rfl) (q_s1_s (q_s1_s (q_s1_1 rfl))) ?_
    refine q_lconst (x := 0) (n := 14) dX7_heatBy_13 rfl (k := ?_)
    refine q_lstore (n := 16) dX7_heatBy_14 rfl (Nat.le_of_ble_eq_true rfl) (q_s2_s (q_s2_s (q_s2_s (q_s2_1 rfl)))) ?_
    refine q_iconst (n := 17) dX7_heatBy_16 rfl (k := ?_)
    refine q_istore (n := 19) dX7_heatBy_17 rfl (Nat.le_of_ble_eq_true rfl) (q_s1_s (q_s1_s (q_s1_s (q_s1_s (q_s1_s (q_s1_1 rfl)))))) ?_
    refine (lpX7_ht σ v F hI hF hh hv (mC (σ 6 v) (σ 7 v) (σ 1 1)).toNat 0 0 _ _ _ _ (by omega) (by omega) hm (by decide)).imp ?_
    rintro r σ2 ⟨h1, h2⟩
    exact ⟨_, h1, rfl, h2⟩
theorem hev_bd (σ : q_S) (v F : Int) (hI0 : IX σ) (hF : q_bd F 9) (hh : hotB (σ 1 1) (σ 1 2) (σ 2) (σ 3) (σ 6) (σ 7) v = true) : q_bd (hev (σ 2) (σ 3) (σ 1 1) (σ 4 v) (σ 5 v) (σ 6 v) (σ 7 v) (F)) 120000000 := by
  have hh2 := hotB_t.mp hh
  have hv := hh2.1.1
  have hvt := hI0.tie hv
  have hn := hI0.1.2.1
  have hc := mem_C hn hvt.2.2
  have := htL_bd (f := σ 2) (a := σ 6 v) (kd := σ 3) (g := mF (σ 6 v) (σ 7 v) (σ 1 1)) hF hvt.1 hvt.2.1 (mC (σ 6 v) (σ 7 v) (σ 1 1)).toNat 0 0 (fun j h1 h2 => by
    have ht0 := hI0.mem hv (j := j) ⟨h1, by omega⟩
    have hkd := hI0.1.2.2.2.2.1 _ ht0.1 ht0.2
    have hkt := tlb_at hh2.2.2 (j := j) ⟨h1, by omega⟩
    exact ⟨⟨hI0.pt ht0, balb_at hh2.1.2 ⟨h1, by omega⟩⟩, by omega⟩)
  unfold q_bd hev
  omega
set_option maxRecDepth 100000 in
theorem lpX7_nn (σ : q_S) (m : Int) (hm : 0 ≤ m ∧ m ≤ 200000000) : ∀ (n : Nat) (i : Int) (a : Int × Int) (o6 : Option q_V), (n : Int) + i = 12 → 0 ≤ i → q_WP mX7_nearestNeutral shX 9 [some (.inr (.inl m)), none, some (.inl a.2), some (.inr (.inl a.1)), none, some (.inl i), o6, none] [] σ (fun r σ' => r = some (.inl (nnL m n i a).2) ∧ σ' = σ) := by
  intro n
  induction n with
  | zero =>
    intro i a o6 hi h0
    refine q_iload (n := 11) dX7_nearestNeutral_9 rfl rfl ?_
    refine q_bipush (n := 13) dX7_nearestNeutral_11 rfl (k := ?_)
    refine q_icmp_ge (n := 16) (t := 57) dX7_nearestNeutral_13 rfl (by decide) (fun h13 => ?_) (fun h13 => ?_)
    · skip
      refine q_iload_n (n := 58) dX7_nearestNeutral_57 rfl rfl ?_
      refine q_iret dX7_nearestNeutral_58 rfl (fun _ => rfl) ?_
      exact ⟨rfl, rfl⟩
    · exact absurd h13 (by omega)
  | succ n ih =>
    intro i a o6 hi h0
    have hms := mss_bd (k := i) ⟨h0, by omega⟩
    have hmb : q_bd m 200000000 := ⟨by omega, hm.2⟩
    refine q_iload (n := 11) dX7_nearestNeutral_9 rfl rfl ?_
    refine q_bipush (n := 13) dX7_nearestNeutral_11 rfl (k := ?_)
    refine q_icmp_ge (n := 16) (t := 57) dX7_nearestNeutral_13 rfl (by decide) (fun h13 => ?_) (fun h13 => ?_)
    · exact absurd h13 (by omega)
    · skip
      refine q_iload (n := 18) dX7_nearestNeutral_16 rfl rfl ?_
      refine q_iconst (n := 19) dX7_nearestNeutral_18 rfl (k := ?_)
      refine q_c2D (n := 22) dX7_nearestNeutral_19 rfl (zX7_numberOf _ _ _ (by omega)) vX7_numberOf lX7_153 rfl rfl ?_
      have b23_ := (show q_bd (q_num.getD (5 * i + 4).toNat 0) 120 from hms)
      refine q_i2l (n := 23) dX7_nearestNeutral_22 rfl ?_
      refine q_lload_n (n := 24) dX7_nearestNeutral_23 rfl rfl ?_
      have b24_ := bd_sub (C := 200000120) b23_ hmb (by decide)
      refine q_lsubS (n := 25) dX7_nearestNeutral_24 rfl (bd_64 b24_ (by decide)) ?_
      refine q_mabsL (n := 28) dX7_nearestNeutral_25 rfl lmX7_192 rfl rfl (bd_g b24_ (by decide)) ?_
      have b25_ := bd_abs b24_
      refine q_lstore (n := 30) dX7_nearestNeutral_28 rfl (Nat.le_of_ble_eq_true rfl) (q_s2_s (q_s2_s (q_s2_s (q_s2_s (q_s2_s (q_s2_1 rfl)))))) ?_
      refine q_iload (n := 32) dX7_nearestNeutral_30 rfl rfl ?_
      refine q_c1D (n := 35) dX7_nearestNeutral_32 rfl (zX7_isNeutral _ _) vX7_isNeutral lX7_246 rfl rfl ?_
      refine q_if_eq (n := 38) (t := 51) dX7_nearestNeutral_35 rfl (by decide) (fun h35 => ?_) (fun h35 => ?_)
      · have h35 := q_b0.mp h35
        refine q_iinc (n := 54) dX7_nearestNeutral_51 rfl (Nat.le_of_ble_eq_true rfl) rfl (q_nwid ⟨by omega, by omega⟩) (q_s1_s (q_s1_s (q_s1_s (q_s1_s (q_s1_1 rfl))))) ?_
        refine q_go (t := 9) dX7_nearestNeutral_54 (by decide) ?_
        rw [nnL]
        first
          | (rw [if_pos (⟨h35.2, h42⟩ : num i 0 = 0 ∧ ab (mss i - m) < a.1)]; exact ih (i + 1) (ab (mss i - m), i) _ (by omega) (by omega))
          | (rw [if_neg (fun z : num i 0 = 0 ∧ ab (mss i - m) < a.1 => absurd z.2 (Int.not_lt.mpr h42))]; exact ih (i + 1) a _ (by omega) (by omega))
          | (rw [if_neg (fun z : num i 0 = 0 ∧ ab (mss i - m) < a.1 => h35 ⟨⟨h0, by omega⟩, z.1⟩)]; exact ih (i + 1) a _ (by omega) (by omega))
      · have h35 := q_b1.mp h35
        refine q_lload (n := 40) dX7_nearestNeutral_38 rfl rfl ?_
        refine q_lload_n (n := 41) dX7_nearestNeutral_40 rfl rfl ?_
        refine q_lcmp (n := 42) dX7_nearestNeutral_41 rfl ?_
        refine q_if_ge (n := 45) (t := 51) dX7_nearestNeutral_42 rfl (by decide) (fun h42 => ?_) (fun h42 => ?_)
        · have h42 := q_kget.mp h42
          refine q_iinc (n := 54) dX7_nearestNeutral_51 rfl (Nat.le_of_ble_eq_true rfl) rfl (q_nwid ⟨by omega, by omega⟩) (q_s1_s (q_s1_s (q_s1_s (q_s1_s (q_s1_1 rfl))))) ?_
          refine q_go (t := 9) dX7_nearestNeutral_54 (by decide) ?_
          rw [nnL]
          first
            | (rw [if_pos (⟨h35.2, h42⟩ : num i 0 = 0 ∧ ab (mss i - m) < a.1)]; exact ih (i + 1) (ab (mss i - m), i) _ (by omega) (by omega))
            | (rw [if_neg (fun z : num i 0 = 0 ∧ ab (mss i - m) < a.1 => absurd z.2 (Int.not_lt.mpr h42))]; exact ih (i + 1) a _ (by omega) (by omega))
            | (rw [if_neg (fun z : num i 0 = 0 ∧ ab (mss i - m) < a.1 => h35 ⟨⟨h0, by omega⟩, z.1⟩)]; exact ih (i + 1) a _ (by omega) (by omega))
        · have h42 := q_kgef.mp h42
          refine q_lload (n := 47) dX7_nearestNeutral_45 rfl rfl ?_
          refine q_lstore_n (n := 48) dX7_nearestNeutral_47 rfl (Nat.le_of_ble_eq_true rfl) (q_s2_s (q_s2_s (q_s2_1 rfl))) ?_
          refine q_iload (n := 50) dX7_nearestNeutral_48 rfl rfl ?_
          refine q_istore_n (n := 51) dX7_nearestNeutral_50 rfl (Nat.le_of_ble_eq_true rfl) (q_s1_s (q_s1_1 rfl)) ?_
          refine q_iinc (n := 54) dX7_nearestNeutral_51 rfl (Nat.le_of_ble_eq_true rfl) rfl (q_nwid ⟨by omega, by omega⟩) (q_s1_s (q_s1_s (q_s1_s (q_s1_s (q_s1_1 rfl))))) ?_
          refine q_go (t := 9) dX7_nearestNeutral_54 (by decide) ?_
          rw [nnL]
          first
            | (rw [if_pos (⟨h35.2, h42⟩ : num i 0 = 0 ∧ ab (mss i - m) < a.1)]; exact ih (i + 1) (ab (mss i - m), i) _ (by omega) (by omega))
            | (rw [if_neg (fun z : num i 0 = 0 ∧ ab (mss i - m) < a.1 => absurd z.2 (Int.not_lt.mpr h42))]; exact ih (i + 1) a _ (by omega) (by omega))
            | (rw [if_neg (fun z : num i 0 = 0 ∧ ab (mss i - m) < a.1 => h35 ⟨⟨h0, by omega⟩, z.1⟩)]; exact ih (i + 1) a _ (by omega) (by omega))
set_option maxRecDepth 100000 in
theorem zX7_nearestNeutral (m : Int) (σ : q_S) (hm : 0 ≤ m ∧ m ≤ 200000000) : q_Ct mX7_nearestNeutral shX [.inr (.inl m)] σ (fun r σ' => r = some (.inl (nnr m)) ∧ σ' = σ) := by
  refine q_ct 6 (by decide) rfl rfl ?_
  show q_WP mX7_nearestNeutral shX 0 [some (.inr (.inl m)), none, none, none, none, none, none, none] [] σ _
  refine q_iconst (n := 1) dX7_nearestNeutral_0 rfl (k := ?_)
  refine q_istore_n (n := 2) dX7_nearestNeutral_1 rfl (Nat.le_of_ble_eq_true rfl) (q_s1_s (q_s1_1 rfl)) ?_
  refine q_ldc2 (x := 9223372036854775807) (n := 5) dX7_nearestNeutral_2 rfl kX7_386 (k := ?_)
  refine q_lstore_n (n := 6) dX7_nearestNeutral_5 rfl (Nat.le_of_ble_eq_true rfl) (q_s2_s (q_s2_s (q_s2_1 rfl))) ?_
  refine q_iconst (n := 7) dX7_nearestNeutral_6 rfl (k := ?_)
  refine q_istore (n := 9) dX7_nearestNeutral_7 rfl (Nat.le_of_ble_eq_true rfl) (q_s1_s (q_s1_s (q_s1_s (q_s1_s (q_s1_1 rfl))))) ?_
  exact lpX7_nn σ m hm 12 0 (9223372036854775807, -1) _ (by decide) (by decide)
set_option maxRecDepth 100000 in
theorem zX7_heat (v x : Int) (σ s : q_S) (hI : IX σ) : q_Ct mX7_heat shX [.inr (.inr 0), .inl v, .inl x] (ov σ s) (fun r σ' => r = some (.inr (.inl (fHeat (σ 1 0) (σ 1 1) (σ 1 2) (σ 2) (σ 3) (σ 4) (σ 5) (σ 6) (σ 7) v x))) ∧ ∃ s', σ' = ov σ s') := by
  refine q_ct 6 (by decide) rfl rfl ?_
  show q_WP mX7_heat shX 0 [some (.inr (.inr 0)), some (.inl v), some (.inl x), none, none, none, none, none, none] [] (ov σ s) _
  have hI0 := hI
  have hF9 := hI.fd
  have hK := KX_le (i := mC (σ 6 v) (σ 7 v) (σ 1 1))
  have hW := KW_le (i := mC (σ 6 v) (σ 7 v) (σ 1 1))
  refine q_iload_n (n := 1) dX7_heat_0 rfl rfl ?_
  refine q_if_lt (n := 4) (t := 17) dX7_heat_1 rfl (by decide) (fun h1 => ?_) (fun h1 => ?_)
  · skip
    refine q_ldc2 (x := -9223372036854775808) (n := 20) dX7_heat_17 rfl kX7_133 (k := ?_)
    refine q_lret dX7_heat_20 rfl ?_
    refine ⟨congrArg some (congrArg Sum.inr (congrArg Sum.inl (Eq.symm ?_))), _, rfl⟩
    unfold fHeat
    first
      | exact if_neg (fun z => h14 z.2)
      | exact if_neg (fun z => by omega)
      | exact absurd h84 (Int.not_lt.mpr hmr.1)
      | (rw [if_pos ⟨⟨by omega, by omega⟩, hh⟩, if_pos h35]; done)
      | (rw [if_pos ⟨⟨by omega, by omega⟩, hh⟩, if_neg h35, if_pos (Or.inl h77)]; exact e)
      | (rw [if_pos ⟨⟨by omega, by omega⟩, hh⟩, if_neg h35, if_pos (Or.inr (by rw [e]; omega))]; exact e)
  · skip
    refine q_iload_n (n := 5) dX7_heat_4 rfl rfl ?_
    refine q_iconst (n := 6) dX7_heat_5 rfl (k := ?_)
    refine q_icmp_gt (n := 9) (t := 17) dX7_heat_6 rfl (by decide) (fun h6 => ?_) (fun h6 => ?_)
    · skip
      refine q_ldc2 (x := -9223372036854775808) (n := 20) dX7_heat_17 rfl kX7_133 (k := ?_)
      refine q_lret dX7_heat_20 rfl ?_
      refine ⟨congrArg some (congrArg Sum.inr (congrArg Sum.inl (Eq.symm ?_))), _, rfl⟩
      unfold fHeat
      first
        | exact if_neg (fun z => h14 z.2)
        | exact if_neg (fun z => by omega)
        | exact absurd h84 (Int.not_lt.mpr hmr.1)
        | (rw [if_pos ⟨⟨by omega, by omega⟩, hh⟩, if_pos h35]; done)
        | (rw [if_pos ⟨⟨by omega, by omega⟩, hh⟩, if_neg h35, if_pos (Or.inl h77)]; exact e)
        | (rw [if_pos ⟨⟨by omega, by omega⟩, hh⟩, if_neg h35, if_pos (Or.inr (by rw [e]; omega))]; exact e)
    · skip
      refine q_aload_n (n := 10) dX7_heat_9 rfl rfl ?_
      refine q_iload_n (n := 11) dX7_heat_10 rfl rfl ?_
      refine q_v1 (n := 14) dX7_heat_11 rfl (zX7_hasHeat v _ _ hI0) vX7_hasHeat lX7_278 rfl rfl xi0 rfl (fun v11 σ11 h11 => ?_)
      obtain ⟨rfl, s1, rfl⟩ := h11
      · skip
        refine q_if_ne (n := 17) (t := 21) dX7_heat_14 rfl (by decide) (fun h14 => ?_) (fun h14 => ?_)
        · have hh := q_b1.mp h14
          have hh2 := hotB_t.mp hh
          obtain ⟨⟨hv, hb⟩, hin, htd⟩ := hh2
          have hvt := hI0.tie hv
          have hn := hI0.1.2.1
          have hc := mem_C hn hvt.2.2
          have hF9 := hI0.fd
          have hj := fun wo => lsb_ok (wo := wo) hn hvt.2.2 hF9 hvt.1 hvt.2.1 (fun t a b => hI0.pt ⟨a, b⟩) hb
          have hj1 := hj (-1)
          have hst := stren_bd (jok_div hj1 hc.1).1 (jok_div hj1 hc.1).2
          have hst9 : q_bd (stren (lsb (σ 2) (σ 1 0) (σ 1 1) (σ 4 v) (σ 5 v) (σ 6 v) (σ 7 v) (-1)).1 (lsb (σ 2) (σ 1 0) (σ 1 1) (σ 4 v) (σ 5 v) (σ 6 v) (σ 7 v) (-1)).2.1 (lsb (σ 2) (σ 1 0) (σ 1 1) (σ 4 v) (σ 5 v) (σ 6 v) (σ 7 v) (-1)).2.2) 679477248000000 := ⟨by omega, hst.2⟩
          refine q_aload_n (n := 22) dX7_heat_21 rfl rfl ?_
          refine q_iload_n (n := 23) dX7_heat_22 rfl rfl ?_
          refine q_aload_n (n := 24) dX7_heat_23 rfl rfl ?_
          refine q_getR (n := 27) dX7_heat_24 rfl fX7_12 xi0 rfl ?_
          refine q_getIF (σ 1) (kI := 0) (n := 30) (by decide) dX7_heat_27 rfl fX7_156 xi1 rfl rfl rfl ?_
          refine q_v2 (n := 33) dX7_heat_30 rfl (zX7_heatBy v (σ 1 0) _ _ hI0 hF9 hh hv) vX7_heatBy lX7_281 rfl rfl xi0 rfl (fun v30 σ30 h30 => ?_)
          obtain ⟨rfl, s2, rfl⟩ := h30
          have hhb := hev_bd σ v (σ 1 0) hI0 hF9 hh
          · skip
            refine q_lstore_n (n := 34) dX7_heat_33 rfl (Nat.le_of_ble_eq_true rfl) (q_s2_s (q_s2_s (q_s2_1 rfl))) ?_
            refine q_iload_n (n := 35) dX7_heat_34 rfl rfl ?_
            refine q_if_ne (n := 38) (t := 40) dX7_heat_35 rfl (by decide) (fun h35 => ?_) (fun h35 => ?_)
            · skip
              refine q_lload_n (n := 41) dX7_heat_40 rfl rfl ?_
              refine q_lload_n (n := 42) dX7_heat_41 rfl rfl ?_
              have b26_ := bd_mul (C := 14400000000000000) hhb hhb (by decide)
              refine q_lmulS (n := 43) dX7_heat_42 rfl (bd_64 b26_ (by decide)) ?_
              refine q_aload_n (n := 44) dX7_heat_43 rfl rfl ?_
              refine q_iload_n (n := 45) dX7_heat_44 rfl rfl ?_
              refine q_iconst (n := 46) dX7_heat_45 rfl (k := ?_)
              refine q_v2 (n := 49) dX7_heat_46 rfl (zX7_lostAt v (-1) _ _ hI0 hv hb) vX7_lostAt lX7_227 rfl rfl xi0 rfl (fun v46 σ46 h46 => ?_)
              obtain ⟨rfl, s3, rfl, hl0, hl1, hl2⟩ := h46
              · skip
                refine q_v0D (n := 52) dX7_heat_49 rfl (zC_strength _ _ 81 (lsb (σ 2) (σ 1 0) (σ 1 1) (σ 4 v) (σ 5 v) (σ 6 v) (σ 7 v) (-1)).1 (lsb (σ 2) (σ 1 0) (σ 1 1) (σ 4 v) (σ 5 v) (σ 6 v) (σ 7 v) (-1)).2.1 (lsb (σ 2) (σ 1 0) (σ 1 1) (σ 4 v) (σ 5 v) (σ 6 v) (σ 7 v) (-1)).2.2 (Or.inl rfl) ⟨hl0, hl1, hl2⟩ hj1.1.1 (jok_div hj1 hc.1).1 (jok_div hj1 hc.1).2) vX4_strength lX7_231 rfl rfl xi81 rfl ?_
                have b27_ := bd_sub (C := 15079477248000000) b26_ hst9 (by decide)
                refine q_lsubS (n := 53) dX7_heat_52 rfl (bd_64 b27_ (by decide)) ?_
                refine q_lstore (n := 55) dX7_heat_53 rfl (Nat.le_of_ble_eq_true rfl) (q_s2_s (q_s2_s (q_s2_s (q_s2_s (q_s2_1 rfl))))) ?_
                refine q_lload (n := 57) dX7_heat_55 rfl rfl ?_
                refine q_lconst (x := 0) (n := 58) dX7_heat_57 rfl (k := ?_)
                refine q_lcmp (n := 59) dX7_heat_58 rfl ?_
                refine q_if_ge (n := 62) (t := 68) dX7_heat_59 rfl (by decide) (fun h59 => ?_) (fun h59 => ?_)
                · have h59 := q_kget.mp h59
                  have hsq := bd_mul hhb hhb (C := 14400000000000000) (by decide)
                  have hqq : 0 ≤ (hev (σ 2) (σ 3) (σ 1 1) (σ 4 v) (σ 5 v) (σ 6 v) (σ 7 v) (σ 1 0)) * (hev (σ 2) (σ 3) (σ 1 1) (σ 4 v) (σ 5 v) (σ 6 v) (σ 7 v) (σ 1 0)) - (stren (lsb (σ 2) (σ 1 0) (σ 1 1) (σ 4 v) (σ 5 v) (σ 6 v) (σ 7 v) (-1)).1 (lsb (σ 2) (σ 1 0) (σ 1 1) (σ 4 v) (σ 5 v) (σ 6 v) (σ 7 v) (-1)).2.1 (lsb (σ 2) (σ 1 0) (σ 1 1) (σ 4 v) (σ 5 v) (σ 6 v) (σ 7 v) (-1)).2.2) ∧ (hev (σ 2) (σ 3) (σ 1 1) (σ 4 v) (σ 5 v) (σ 6 v) (σ 7 v) (σ 1 0)) * (hev (σ 2) (σ 3) (σ 1 1) (σ 4 v) (σ 5 v) (σ 6 v) (σ 7 v) (σ 1 0)) - (stren (lsb (σ 2) (σ 1 0) (σ 1 1) (σ 4 v) (σ 5 v) (σ 6 v) (σ 7 v) (-1)).1 (lsb (σ 2) (σ 1 0) (σ 1 1) (σ 4 v) (σ 5 v) (σ 6 v) (σ 7 v) (-1)).2.1 (lsb (σ 2) (σ 1 0) (σ 1 1) (σ 4 v) (σ 5 v) (σ 6 v) (σ 7 v) (-1)).2.2) ≤ 14400000000000000 := ⟨h59, by unfold q_bd at hsq; omega⟩
                  have hmr := rt_bd2 hqq
                  have e : msv (hev (σ 2) (σ 3) (σ 1 1) (σ 4 v) (σ 5 v) (σ 6 v) (σ 7 v) (σ 1 0)) (stren (lsb (σ 2) (σ 1 0) (σ 1 1) (σ 4 v) (σ 5 v) (σ 6 v) (σ 7 v) (-1)).1 (lsb (σ 2) (σ 1 0) (σ 1 1) (σ 4 v) (σ 5 v) (σ 6 v) (σ 7 v) (-1)).2.1 (lsb (σ 2) (σ 1 0) (σ 1 1) (σ 4 v) (σ 5 v) (σ 6 v) (σ 7 v) (-1)).2.2) = rt ((hev (σ 2) (σ 3) (σ 1 1) (σ 4 v) (σ 5 v) (σ 6 v) (σ 7 v) (σ 1 0)) * (hev (σ 2) (σ 3) (σ 1 1) (σ 4 v) (σ 5 v) (σ 6 v) (σ 7 v) (σ 1 0)) - (stren (lsb (σ 2) (σ 1 0) (σ 1 1) (σ 4 v) (σ 5 v) (σ 6 v) (σ 7 v) (-1)).1 (lsb (σ 2) (σ 1 0) (σ 1 1) (σ 4 v) (σ 5 v) (σ 6 v) (σ 7 v) (-1)).2.1 (lsb (σ 2) (σ 1 0) (σ 1 1) (σ 4 v) (σ 5 v) (σ 6 v) (σ 7 v) (-1)).2.2)) := if_neg (by omega)
                  refine q_lload (n := 70) dX7_heat_68 rfl rfl ?_
                  refine q_c1D (n := 73) dX7_heat_70 rfl (zX7_wholeRoot _ _ _) vX7_wholeRoot lX7_286 rfl rfl ?_
                  refine q_lstore (n := 75) dX7_heat_73 rfl (Nat.le_of_ble_eq_true rfl) (q_s2_s (q_s2_s (q_s2_s (q_s2_s (q_s2_s (q_s2_s (q_s2_1 rfl))))))) ?_
                  refine q_iload_n (n := 76) dX7_heat_75 rfl rfl ?_
                  refine q_iconst (n := 77) dX7_heat_76 rfl (k := ?_)
                  refine q_icmp_eq (n := 80) (t := 87) dX7_heat_77 rfl (by decide) (fun h77 => ?_) (fun h77 => ?_)
                  · skip
                    refine q_lload (n := 89) dX7_heat_87 rfl rfl ?_
                    refine q_go (t := 98) dX7_heat_89 (by decide) ?_
                    refine q_lret dX7_heat_98 rfl ?_
                    refine ⟨congrArg some (congrArg Sum.inr (congrArg Sum.inl (Eq.symm ?_))), _, rfl⟩
                    unfold fHeat
                    first
                      | exact if_neg (fun z => h14 z.2)
                      | exact if_neg (fun z => by omega)
                      | exact absurd h84 (Int.not_lt.mpr hmr.1)
                      | (rw [if_pos ⟨⟨by omega, by omega⟩, hh⟩, if_pos h35]; done)
                      | (rw [if_pos ⟨⟨by omega, by omega⟩, hh⟩, if_neg h35, if_pos (Or.inl h77)]; exact e)
                      | (rw [if_pos ⟨⟨by omega, by omega⟩, hh⟩, if_neg h35, if_pos (Or.inr (by rw [e]; omega))]; exact e)
                  · skip
                    refine q_lload (n := 82) dX7_heat_80 rfl rfl ?_
                    refine q_lconst (x := 0) (n := 83) dX7_heat_82 rfl (k := ?_)
                    refine q_lcmp (n := 84) dX7_heat_83 rfl ?_
                    refine q_if_ge (n := 87) (t := 92) dX7_heat_84 rfl (by decide) (fun h84 => ?_) (fun h84 => ?_)
                    · have h84 := q_kget.mp h84
                      first
                        | exact absurd h84 (by decide)
                        | (refine q_lload (n := 94) dX7_heat_92 rfl rfl ?_
                           refine q_c1D (n := 97) dX7_heat_94 rfl (zX7_nearestNeutral _ _ hmr) vX7_nearestNeutral lX7_289 rfl rfl ?_
                           refine q_i2l (n := 98) dX7_heat_97 rfl ?_
                           refine q_lret dX7_heat_98 rfl ?_
                           refine ⟨congrArg some (congrArg Sum.inr (congrArg Sum.inl (Eq.symm ?_))), _, rfl⟩
                           unfold fHeat
                           rw [if_pos ⟨⟨by omega, by omega⟩, hh⟩, if_neg h35, if_neg (fun z => z.elim h77 (fun z => by rw [e] at z; omega)), e]
                           rfl)
                    · have h84 := q_kgef.mp h84
                      refine q_lload (n := 89) dX7_heat_87 rfl rfl ?_
                      refine q_go (t := 98) dX7_heat_89 (by decide) ?_
                      refine q_lret dX7_heat_98 rfl ?_
                      refine ⟨congrArg some (congrArg Sum.inr (congrArg Sum.inl (Eq.symm ?_))), _, rfl⟩
                      unfold fHeat
                      first
                        | exact if_neg (fun z => h14 z.2)
                        | exact if_neg (fun z => by omega)
                        | exact absurd h84 (Int.not_lt.mpr hmr.1)
                        | (rw [if_pos ⟨⟨by omega, by omega⟩, hh⟩, if_pos h35]; done)
                        | (rw [if_pos ⟨⟨by omega, by omega⟩, hh⟩, if_neg h35, if_pos (Or.inl h77)]; exact e)
                        | (rw [if_pos ⟨⟨by omega, by omega⟩, hh⟩, if_neg h35, if_pos (Or.inr (by rw [e]; omega))]; exact e)
                · have h59 := q_kgef.mp h59
                  have e : msv (hev (σ 2) (σ 3) (σ 1 1) (σ 4 v) (σ 5 v) (σ 6 v) (σ 7 v) (σ 1 0)) (stren (lsb (σ 2) (σ 1 0) (σ 1 1) (σ 4 v) (σ 5 v) (σ 6 v) (σ 7 v) (-1)).1 (lsb (σ 2) (σ 1 0) (σ 1 1) (σ 4 v) (σ 5 v) (σ 6 v) (σ 7 v) (-1)).2.1 (lsb (σ 2) (σ 1 0) (σ 1 1) (σ 4 v) (σ 5 v) (σ 6 v) (σ 7 v) (-1)).2.2) = -1 := if_pos h59
                  refine q_ldc2 (x := -1) (n := 65) dX7_heat_62 rfl kX7_284 (k := ?_)
                  refine q_go (t := 73) dX7_heat_65 (by decide) ?_
                  refine q_lstore (n := 75) dX7_heat_73 rfl (Nat.le_of_ble_eq_true rfl) (q_s2_s (q_s2_s (q_s2_s (q_s2_s (q_s2_s (q_s2_s (q_s2_1 rfl))))))) ?_
                  refine q_iload_n (n := 76) dX7_heat_75 rfl rfl ?_
                  refine q_iconst (n := 77) dX7_heat_76 rfl (k := ?_)
                  refine q_icmp_eq (n := 80) (t := 87) dX7_heat_77 rfl (by decide) (fun h77 => ?_) (fun h77 => ?_)
                  · skip
                    refine q_lload (n := 89) dX7_heat_87 rfl rfl ?_
                    refine q_go (t := 98) dX7_heat_89 (by decide) ?_
                    refine q_lret dX7_heat_98 rfl ?_
                    refine ⟨congrArg some (congrArg Sum.inr (congrArg Sum.inl (Eq.symm ?_))), _, rfl⟩
                    unfold fHeat
                    first
                      | exact if_neg (fun z => h14 z.2)
                      | exact if_neg (fun z => by omega)
                      | exact absurd h84 (Int.not_lt.mpr hmr.1)
                      | (rw [if_pos ⟨⟨by omega, by omega⟩, hh⟩, if_pos h35]; done)
                      | (rw [if_pos ⟨⟨by omega, by omega⟩, hh⟩, if_neg h35, if_pos (Or.inl h77)]; exact e)
                      | (rw [if_pos ⟨⟨by omega, by omega⟩, hh⟩, if_neg h35, if_pos (Or.inr (by rw [e]; omega))]; exact e)
                  · skip
                    refine q_lload (n := 82) dX7_heat_80 rfl rfl ?_
                    refine q_lconst (x := 0) (n := 83) dX7_heat_82 rfl (k := ?_)
                    refine q_lcmp (n := 84) dX7_heat_83 rfl ?_
                    refine q_if_ge (n := 87) (t := 92) dX7_heat_84 rfl (by decide) (fun h84 => ?_) (fun h84 => ?_)
                    · have h84 := q_kget.mp h84
                      first
                        | exact absurd h84 (by decide)
                        | (refine q_lload (n := 94) dX7_heat_92 rfl rfl ?_
                           refine q_c1D (n := 97) dX7_heat_94 rfl (zX7_nearestNeutral _ _ hmr) vX7_nearestNeutral lX7_289 rfl rfl ?_
                           refine q_i2l (n := 98) dX7_heat_97 rfl ?_
                           refine q_lret dX7_heat_98 rfl ?_
                           refine ⟨congrArg some (congrArg Sum.inr (congrArg Sum.inl (Eq.symm ?_))), _, rfl⟩
                           unfold fHeat
                           rw [if_pos ⟨⟨by omega, by omega⟩, hh⟩, if_neg h35, if_neg (fun z => z.elim h77 (fun z => by rw [e] at z; omega)), e]
                           rfl)
                    · have h84 := q_kgef.mp h84
                      refine q_lload (n := 89) dX7_heat_87 rfl rfl ?_
                      refine q_go (t := 98) dX7_heat_89 (by decide) ?_
                      refine q_lret dX7_heat_98 rfl ?_
                      refine ⟨congrArg some (congrArg Sum.inr (congrArg Sum.inl (Eq.symm ?_))), _, rfl⟩
                      unfold fHeat
                      first
                        | exact if_neg (fun z => h14 z.2)
                        | exact if_neg (fun z => by omega)
                        | exact absurd h84 (Int.not_lt.mpr hmr.1)
                        | (rw [if_pos ⟨⟨by omega, by omega⟩, hh⟩, if_pos h35]; done)
                        | (rw [if_pos ⟨⟨by omega, by omega⟩, hh⟩, if_neg h35, if_pos (Or.inl h77)]; exact e)
                        | (rw [if_pos ⟨⟨by omega, by omega⟩, hh⟩, if_neg h35, if_pos (Or.inr (by rw [e]; omega))]; exact e)
            · skip
              refine q_lload_n (n := 39) dX7_heat_38 rfl rfl ?_
              refine q_lret dX7_heat_39 rfl ?_
              refine ⟨congrArg some (congrArg Sum.inr (congrArg Sum.inl (Eq.symm ?_))), _, rfl⟩
              unfold fHeat
              first
                | exact if_neg (fun z => h14 z.2)
                | exact if_neg (fun z => by omega)
                | exact absurd h84 (Int.not_lt.mpr hmr.1)
                | (rw [if_pos ⟨⟨by omega, by omega⟩, hh⟩, if_pos h35]; done)
                | (rw [if_pos ⟨⟨by omega, by omega⟩, hh⟩, if_neg h35, if_pos (Or.inl h77)]; exact e)
                | (rw [if_pos ⟨⟨by omega, by omega⟩, hh⟩, if_neg h35, if_pos (Or.inr (by rw [e]; omega))]; exact e)
        · have h14 := q_b0.mp h14
          refine q_ldc2 (x := -9223372036854775808) (n := 20) dX7_heat_17 rfl kX7_133 (k := ?_)
          refine q_lret dX7_heat_20 rfl ?_
          refine ⟨congrArg some (congrArg Sum.inr (congrArg Sum.inl (Eq.symm ?_))), _, rfl⟩
          unfold fHeat
          first
            | exact if_neg (fun z => h14 z.2)
            | exact if_neg (fun z => by omega)
            | exact absurd h84 (Int.not_lt.mpr hmr.1)
            | (rw [if_pos ⟨⟨by omega, by omega⟩, hh⟩, if_pos h35]; done)
            | (rw [if_pos ⟨⟨by omega, by omega⟩, hh⟩, if_neg h35, if_pos (Or.inl h77)]; exact e)
            | (rw [if_pos ⟨⟨by omega, by omega⟩, hh⟩, if_neg h35, if_pos (Or.inr (by rw [e]; omega))]; exact e)
set_option maxRecDepth 100000 in
theorem lpX7_ev (σ : q_S) (v : Int) (hI0 : IX σ) (hh : hotB (σ 1 1) (σ 1 2) (σ 2) (σ 3) (σ 6) (σ 7) v = true) (hv : 0 ≤ v ∧ v < σ 1 2) : ∀ (n : Nat) (i : Int) (a : Int × Int) (s : q_S) (o6 : Option q_V), (n : Int) + i = 10 → 2 ≤ i → q_WP mX7_evens shX 39 [some (.inr (.inr 0)), some (.inl v), some (.inl a.2), some (.inr (.inl a.1)), none, some (.inl i), o6, none] [] (ov σ s) (fun r σ' => r = some (.inl (evL (hev (σ 2) (σ 3) (σ 1 1) (σ 4 v) (σ 5 v) (σ 6 v) (σ 7 v)) n i a).2) ∧ ∃ s', σ' = ov σ s') := by
  intro n
  induction n with
  | zero =>
    intro i a s o6 hi h0
    refine q_iload (n := 41) dX7_evens_39 rfl rfl ?_
    refine q_bipush (n := 43) dX7_evens_41 rfl (k := ?_)
    refine q_icmp_gt (n := 46) (t := 77) dX7_evens_43 rfl (by decide) (fun h43 => ?_) (fun h43 => ?_)
    · skip
      refine q_iload_n (n := 78) dX7_evens_77 rfl rfl ?_
      refine q_iret dX7_evens_78 rfl (fun _ => rfl) ?_
      exact ⟨rfl, _, rfl⟩
    · exact absurd h43 (by omega)
  | succ n ih =>
    intro i a s o6 hi h0
    have hF9 : q_bd i 9 := ⟨by omega, by omega⟩
    have hhb := hev_bd σ v i hI0 hF9 hh
    refine q_iload (n := 41) dX7_evens_39 rfl rfl ?_
    refine q_bipush (n := 43) dX7_evens_41 rfl (k := ?_)
    refine q_icmp_gt (n := 46) (t := 77) dX7_evens_43 rfl (by decide) (fun h43 => ?_) (fun h43 => ?_)
    · exact absurd h43 (by omega)
    · skip
      refine q_aload_n (n := 47) dX7_evens_46 rfl rfl ?_
      refine q_iload_n (n := 48) dX7_evens_47 rfl rfl ?_
      refine q_iload (n := 50) dX7_evens_48 rfl rfl ?_
      refine q_v2 (n := 53) dX7_evens_50 rfl (zX7_heatBy v i _ _ hI0 hF9 hh hv) vX7_heatBy lX7_281 rfl rfl xi0 rfl (fun v50 σ50 h50 => ?_)
      obtain ⟨rfl, s2, rfl⟩ := h50
      · skip
        refine q_mabsL (n := 56) dX7_evens_53 rfl lmX7_192 rfl rfl (bd_g hhb (by decide)) ?_
        have b28_ := bd_abs hhb
        refine q_lstore (n := 58) dX7_evens_56 rfl (Nat.le_of_ble_eq_true rfl) (q_s2_s (q_s2_s (q_s2_s (q_s2_s (q_s2_s (q_s2_1 rfl)))))) ?_
        refine q_lload (n := 60) dX7_evens_58 rfl rfl ?_
        refine q_lload_n (n := 61) dX7_evens_60 rfl rfl ?_
        refine q_lcmp (n := 62) dX7_evens_61 rfl ?_
        refine q_if_ge (n := 65) (t := 71) dX7_evens_62 rfl (by decide) (fun h62 => ?_) (fun h62 => ?_)
        · have h62 := q_kget.mp h62
          refine q_iinc (n := 74) dX7_evens_71 rfl (Nat.le_of_ble_eq_true rfl) rfl (q_nwid ⟨by omega, by omega⟩) (q_s1_s (q_s1_s (q_s1_s (q_s1_s (q_s1_1 rfl))))) ?_
          refine q_go (t := 39) dX7_evens_74 (by decide) ?_
          rw [evL]
          first
            | (rw [if_pos (show ab (hev (σ 2) (σ 3) (σ 1 1) (σ 4 v) (σ 5 v) (σ 6 v) (σ 7 v) (i)) < a.1 from h62)]; exact ih (i + 1) (ab (hev (σ 2) (σ 3) (σ 1 1) (σ 4 v) (σ 5 v) (σ 6 v) (σ 7 v) (i)), i) _ _ (by omega) (by omega))
            | (rw [if_neg (show ¬ ab (hev (σ 2) (σ 3) (σ 1 1) (σ 4 v) (σ 5 v) (σ 6 v) (σ 7 v) (i)) < a.1 from Int.not_lt.mpr h62)]; exact ih (i + 1) a _ _ (by omega) (by omega))
        · have h62 := q_kgef.mp h62
          refine q_lload (n := 67) dX7_evens_65 rfl rfl ?_
          refine q_lstore_n (n := 68) dX7_evens_67 rfl (Nat.le_of_ble_eq_true rfl) (q_s2_s (q_s2_s (q_s2_1 rfl))) ?_
          refine q_iload (n := 70) dX7_evens_68 rfl rfl ?_
          refine q_istore_n (n := 71) dX7_evens_70 rfl (Nat.le_of_ble_eq_true rfl) (q_s1_s (q_s1_1 rfl)) ?_
          refine q_iinc (n := 74) dX7_evens_71 rfl (Nat.le_of_ble_eq_true rfl) rfl (q_nwid ⟨by omega, by omega⟩) (q_s1_s (q_s1_s (q_s1_s (q_s1_s (q_s1_1 rfl))))) ?_
          refine q_go (t := 39) dX7_evens_74 (by decide) ?_
          rw [evL]
          first
            | (rw [if_pos (show ab (hev (σ 2) (σ 3) (σ 1 1) (σ 4 v) (σ 5 v) (σ 6 v) (σ 7 v) (i)) < a.1 from h62)]; exact ih (i + 1) (ab (hev (σ 2) (σ 3) (σ 1 1) (σ 4 v) (σ 5 v) (σ 6 v) (σ 7 v) (i)), i) _ _ (by omega) (by omega))
            | (rw [if_neg (show ¬ ab (hev (σ 2) (σ 3) (σ 1 1) (σ 4 v) (σ 5 v) (σ 6 v) (σ 7 v) (i)) < a.1 from Int.not_lt.mpr h62)]; exact ih (i + 1) a _ _ (by omega) (by omega))
set_option maxRecDepth 100000 in
theorem zX7_evens (v : Int) (σ s : q_S) (hI : IX σ) : q_Ct mX7_evens shX [.inr (.inr 0), .inl v] (ov σ s) (fun r σ' => r = some (.inl (fEvens (σ 1 1) (σ 1 2) (σ 2) (σ 3) (σ 4) (σ 5) (σ 6) (σ 7) v)) ∧ ∃ s', σ' = ov σ s') := by
  refine q_ct 6 (by decide) rfl rfl ?_
  show q_WP mX7_evens shX 0 [some (.inr (.inr 0)), some (.inl v), none, none, none, none, none, none] [] (ov σ s) _
  have hI0 := hI
  have hF1 : q_bd 1 9 := ⟨by decide, by decide⟩
  refine q_aload_n (n := 1) dX7_evens_0 rfl rfl ?_
  refine q_getR (n := 4) dX7_evens_1 rfl fX7_12 xi0 rfl ?_
  refine q_iload_n (n := 5) dX7_evens_4 rfl rfl ?_
  refine q_v1D (n := 8) dX7_evens_5 rfl (zO_hasVertex _ _ _) vX3_hasVertex lX7_135 rfl rfl xi1 rfl ?_
  refine q_if_ne (n := 11) (t := 13) dX7_evens_8 rfl (by decide) (fun h8 => ?_) (fun h8 => ?_)
  · have hv := q_b1.mp h8
    refine q_aload_n (n := 14) dX7_evens_13 rfl rfl ?_
    refine q_iload_n (n := 15) dX7_evens_14 rfl rfl ?_
    refine q_v1 (n := 18) dX7_evens_15 rfl (zX7_hasHeat v _ _ hI0) vX7_hasHeat lX7_278 rfl rfl xi0 rfl (fun v15 σ15 h15 => ?_)
    obtain ⟨rfl, s1, rfl⟩ := h15
    · skip
      refine q_if_ne (n := 21) (t := 24) dX7_evens_18 rfl (by decide) (fun h18 => ?_) (fun h18 => ?_)
      · have hh := q_b1.mp h18
        refine q_iconst (n := 25) dX7_evens_24 rfl (k := ?_)
        refine q_istore_n (n := 26) dX7_evens_25 rfl (Nat.le_of_ble_eq_true rfl) (q_s1_s (q_s1_1 rfl)) ?_
        refine q_aload_n (n := 27) dX7_evens_26 rfl rfl ?_
        refine q_iload_n (n := 28) dX7_evens_27 rfl rfl ?_
        refine q_iconst (n := 29) dX7_evens_28 rfl (k := ?_)
        refine q_v2 (n := 32) dX7_evens_29 rfl (zX7_heatBy v 1 _ _ hI0 hF1 hh hv) vX7_heatBy lX7_281 rfl rfl xi0 rfl (fun v29 σ29 h29 => ?_)
        obtain ⟨rfl, s2, rfl⟩ := h29
        have hhb := hev_bd σ v 1 hI0 hF1 hh
        · skip
          refine q_mabsL (n := 35) dX7_evens_32 rfl lmX7_192 rfl rfl (bd_g hhb (by decide)) ?_
          have b29_ := bd_abs hhb
          refine q_lstore_n (n := 36) dX7_evens_35 rfl (Nat.le_of_ble_eq_true rfl) (q_s2_s (q_s2_s (q_s2_1 rfl))) ?_
          refine q_iconst (n := 37) dX7_evens_36 rfl (k := ?_)
          refine q_istore (n := 39) dX7_evens_37 rfl (Nat.le_of_ble_eq_true rfl) (q_s1_s (q_s1_s (q_s1_s (q_s1_s (q_s1_1 rfl))))) ?_
          have e : fEvens (σ 1 1) (σ 1 2) (σ 2) (σ 3) (σ 4) (σ 5) (σ 6) (σ 7) v = (evL (hev (σ 2) (σ 3) (σ 1 1) (σ 4 v) (σ 5 v) (σ 6 v) (σ 7 v)) 8 2 (ab (hev (σ 2) (σ 3) (σ 1 1) (σ 4 v) (σ 5 v) (σ 6 v) (σ 7 v) (1)), 1)).2 := by
            unfold fEvens
            rw [if_neg (fun z => z hv), if_neg (fun z => z hh)]
          rw [e]
          exact lpX7_ev σ v hI hh hv 8 2 (ab (hev (σ 2) (σ 3) (σ 1 1) (σ 4 v) (σ 5 v) (σ 6 v) (σ 7 v) (1)), 1) _ _ (by decide) (by decide)
      · have hh := q_b0.mp h18
        refine q_bipush (n := 23) dX7_evens_21 rfl (k := ?_)
        refine q_iret dX7_evens_23 rfl (fun _ => rfl) ?_
        refine ⟨congrArg some (congrArg Sum.inl (Eq.symm ?_)), _, rfl⟩
        unfold fEvens
        first
          | exact if_pos hv
          | (rw [if_neg (fun z => z hv), if_pos hh]; done)
  · have hv := q_b0.mp h8
    refine q_iconst (n := 12) dX7_evens_11 rfl (k := ?_)
    refine q_iret dX7_evens_12 rfl (fun _ => rfl) ?_
    refine ⟨congrArg some (congrArg Sum.inl (Eq.symm ?_)), _, rfl⟩
    unfold fEvens
    first
      | exact if_pos hv
      | (rw [if_neg (fun z => z hv), if_pos hh]; done)
