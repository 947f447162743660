/-! the reference's row as a picture: what changes do -/
theorem shr_z {b nt : Int} (hb : q_i32 b) (h1 : 1 ≤ b) (hn : 0 ≤ nt ∧ nt ≤ 8) : q_shr b nt = 0 ↔ b < q_shl 1 nt := by
  have h0 := fun (k : Int32) (j : Nat) (hs : (k.toBitVec.smod 32).toNat = j) => pk_shr (Int32.ofInt b) k j hs
  have : nt = 0 ∨ nt = 1 ∨ nt = 2 ∨ nt = 3 ∨ nt = 4 ∨ nt = 5 ∨ nt = 6 ∨ nt = 7 ∨ nt = 8 := by omega
  rcases this with rfl | rfl | rfl | rfl | rfl | rfl | rfl | rfl | rfl
  · have e : q_shr b 0 = b / 1 := by unfold q_shr; rw [h0 _ 0 (by decide), q_t32 hb, Int.shiftRight_eq_div_pow]; rfl
    rw [e, show q_shl 1 0 = 1 by decide]
    omega
  · have e : q_shr b 1 = b / 2 := by unfold q_shr; rw [h0 _ 1 (by decide), q_t32 hb, Int.shiftRight_eq_div_pow]; rfl
    rw [e, show q_shl 1 1 = 2 by decide]
    omega
  · have e : q_shr b 2 = b / 4 := by unfold q_shr; rw [h0 _ 2 (by decide), q_t32 hb, Int.shiftRight_eq_div_pow]; rfl
    rw [e, show q_shl 1 2 = 4 by decide]
    omega
  · have e : q_shr b 3 = b / 8 := by unfold q_shr; rw [h0 _ 3 (by decide), q_t32 hb, Int.shiftRight_eq_div_pow]; rfl
    rw [e, show q_shl 1 3 = 8 by decide]
    omega
  · have e : q_shr b 4 = b / 16 := by unfold q_shr; rw [h0 _ 4 (by decide), q_t32 hb, Int.shiftRight_eq_div_pow]; rfl
    rw [e, show q_shl 1 4 = 16 by decide]
    omega
  · have e : q_shr b 5 = b / 32 := by unfold q_shr; rw [h0 _ 5 (by decide), q_t32 hb, Int.shiftRight_eq_div_pow]; rfl
    rw [e, show q_shl 1 5 = 32 by decide]
    omega
  · have e : q_shr b 6 = b / 64 := by unfold q_shr; rw [h0 _ 6 (by decide), q_t32 hb, Int.shiftRight_eq_div_pow]; rfl
    rw [e, show q_shl 1 6 = 64 by decide]
    omega
  · have e : q_shr b 7 = b / 128 := by unfold q_shr; rw [h0 _ 7 (by decide), q_t32 hb, Int.shiftRight_eq_div_pow]; rfl
    rw [e, show q_shl 1 7 = 128 by decide]
    omega
  · have e : q_shr b 8 = b / 256 := by unfold q_shr; rw [h0 _ 8 (by decide), q_t32 hb, Int.shiftRight_eq_div_pow]; rfl
    rw [e, show q_shl 1 8 = 256 by decide]
    omega
def pE (τ τ' : q_S) : Prop := (∀ j : Int, 0 ≤ j → j < 3 → τ 1 j = τ' 1 j) ∧ (∀ j : Int, 0 ≤ j → j < 48 → τ 2 j = τ' 2 j) ∧ (∀ j : Int, 0 ≤ j → j < 8 → τ 3 j = τ' 3 j) ∧ (∀ a j : Int, 4 ≤ a → a ≤ 7 → 0 ≤ j → j < 4 → τ a j = τ' a j)
theorem pE_r {τ : q_S} : pE τ τ := ⟨fun _ _ _ => rfl, fun _ _ _ => rfl, fun _ _ _ => rfl, fun _ _ _ _ _ _ => rfl⟩
theorem pE_s {τ τ' : q_S} (h : pE τ τ') : pE τ' τ := ⟨fun j a b => (h.1 j a b).symm, fun j a b => (h.2.1 j a b).symm, fun j a b => (h.2.2.1 j a b).symm, fun k j a b c d => (h.2.2.2 k j a b c d).symm⟩
theorem pE_t {τ τ' τ'' : q_S} (h : pE τ τ') (h2 : pE τ' τ'') : pE τ τ'' := ⟨fun j a b => (h.1 j a b).trans (h2.1 j a b), fun j a b => (h.2.1 j a b).trans (h2.2.1 j a b), fun j a b => (h.2.2.1 j a b).trans (h2.2.2.1 j a b), fun k j a b c d => (h.2.2.2 k j a b c d).trans (h2.2.2.2 k j a b c d)⟩
theorem IPs_pE {τ τ' : q_S} (hI : IPs τ) (h : pE τ' τ) : IPs τ' := by
  obtain ⟨a1, a2, a3, a4, a5, a6⟩ := hI
  obtain ⟨b1, b2, b3, b4⟩ := h
  unfold IPs IPp
  rw [b1 0 (by decide) (by decide), b1 1 (by decide) (by decide), b1 2 (by decide) (by decide)]
  refine ⟨a1, a2, a3, fun t t0 t1 => ?_, fun t t0 t1 => ?_, fun v v0 v1 => ?_⟩
  · have := a4 t t0 t1
    unfold lG unl at *
    rw [b2 (6 * t) (by omega) (by omega), b2 (6 * t + 1) (by omega) (by omega), b2 (6 * t + 2) (by omega) (by omega), b2 (6 * t + 3) (by omega) (by omega), b2 (6 * t + 4) (by omega) (by omega), b2 (6 * t + 5) (by omega) (by omega)]
    exact this
  · rw [b3 t t0 (by omega)]
    exact a5 t t0 t1
  · rw [b4 4 v (by decide) (by decide) v0 (by omega), b4 5 v (by decide) (by decide) v0 (by omega), b4 6 v (by decide) (by decide) v0 (by omega), b4 7 v (by decide) (by decide) v0 (by omega)]
    exact a6 v v0 v1
def KR (n : Int → Int) : Prop := ∀ t : Int, 0 ≤ t → t < n 1 → -1 ≤ n (51 + t) ∧ n (51 + t) ≤ 11
theorem IM_of {σ σ1 : q_S} (hI : IM σ) (h1 : IPs (pM (σ1 1))) (h2 : KR (σ1 1)) (hc : ∀ c : Int, 2 ≤ c → c ≤ 7 → σ1 c = σ c) (h9 : 0 ≤ σ1 0 9 ∧ σ1 0 9 ≤ 8) (h28 : σ1 0 28 = σ 0 28) (h14 : σ1 14 = σ 14) (h34 : σ1 0 34 = σ 0 34) (h18 : σ1 18 = σ 18) : IM σ1 := by
  obtain ⟨_, _, i3, _, i5, i6, i7, i8⟩ := hI
  unfold IM
  rw [hc 2 (by decide) (by decide), hc 3 (by decide) (by decide), hc 4 (by decide) (by decide), hc 5 (by decide) (by decide), hc 6 (by decide) (by decide), hc 7 (by decide) (by decide), h28, h14, h34, h18]
  exact ⟨h1, h2, i3, h9, i5, i6, i7, i8⟩
theorem up_ag {σ τ : q_S} {c c' k k' x y v : Int} (h : x = k ↔ y = k') (h2 : σ c x = τ c' y) : q_up σ c k v c x = q_up τ c' k' v c' y := by
  by_cases e : x = k
  · rw [e, h.mp e, q_up_s, q_up_s]
  · rw [q_up_n (fun z => e z.2), q_up_n (fun z => e (h.mpr z.2)), h2]
def tcM (ax ay bx by' cx cy : Int) (σ : q_S) : q_S := q_up (q_up (q_up (q_up (q_up (q_up (q_up (q_up σ 1 (3 + 6 * σ 1 1) ax) 1 (3 + 6 * σ 1 1 + 1) ay) 1 (3 + 6 * σ 1 1 + 2) bx) 1 (3 + 6 * σ 1 1 + 3) by') 1 (3 + 6 * σ 1 1 + 4) cx) 1 (3 + 6 * σ 1 1 + 5) cy) 1 (51 + σ 1 1) (-1)) 1 1 (σ 1 1 + 1)
theorem tcM_pE {ax ay bx by' cx cy : Int} {σ : q_S} (hn : 0 ≤ σ 1 1 ∧ σ 1 1 ≤ 7) : pE (pM (tcM ax ay bx by' cx cy σ 1)) (newT ax ay bx by' cx cy (pM (σ 1))) := by
  have e1 : pM (σ 1) 1 1 = σ 1 1 := rfl
  unfold newT
  rw [e1]
  refine ⟨fun j a b => ?_, fun j a b => ?_, fun j a b => ?_, fun k j a b c d => ?_⟩
  · show tcM ax ay bx by' cx cy σ 1 j = _
    unfold tcM
    refine up_ag Iff.rfl ?_
    rw [q_up_n (by omega), q_up_n (by omega), q_up_n (by omega), q_up_n (by omega), q_up_n (by omega), q_up_n (by omega), q_up_n (by omega), q_up_n (by omega), q_up_n (by omega), q_up_n (by omega), q_up_n (by omega), q_up_n (by omega), q_up_n (by omega), q_up_n (by omega)]
    rfl
  · show tcM ax ay bx by' cx cy σ 1 (3 + j) = _
    unfold tcM
    rw [q_up_n (by omega), q_up_n (by omega)]
    rw [q_up_n (c := 1) (c' := 2) (by omega), q_up_n (c := 3) (c' := 2) (by omega)]
    refine up_ag (by omega) (up_ag (by omega) (up_ag (by omega) (up_ag (by omega) (up_ag (by omega) (up_ag (by omega) ?_)))))
    rfl
  · show (if tcM ax ay bx by' cx cy σ 1 (51 + j) = -1 then (12 : Int) else tcM ax ay bx by' cx cy σ 1 (51 + j)) = _
    have e : tcM ax ay bx by' cx cy σ 1 (51 + j) = if j = σ 1 1 then -1 else σ 1 (51 + j) := by
      unfold tcM
      rw [q_up_n (by omega)]
      by_cases z : j = σ 1 1
      · rw [if_pos z, z, q_up_s]
      · rw [if_neg z, q_up_n (by omega), q_up_n (by omega), q_up_n (by omega), q_up_n (by omega), q_up_n (by omega), q_up_n (by omega), q_up_n (by omega)]
    rw [e]
    rw [q_up_n (c := 1) (c' := 3) (by omega)]
    by_cases z : j = σ 1 1
    · rw [if_pos z, if_pos rfl, z, q_up_s]
    · rw [if_neg z, q_up_n (by omega), q_up_n (by omega), q_up_n (by omega), q_up_n (by omega), q_up_n (by omega), q_up_n (by omega), q_up_n (by omega)]
      rfl
  · have e : ∀ x : Int, 59 ≤ x → tcM ax ay bx by' cx cy σ 1 x = σ 1 x := fun x hx => by
      unfold tcM
      rw [q_up_n (by omega), q_up_n (by omega), q_up_n (by omega), q_up_n (by omega), q_up_n (by omega), q_up_n (by omega), q_up_n (by omega), q_up_n (by omega)]
    rw [q_up_n (by omega), q_up_n (by omega), q_up_n (by omega), q_up_n (by omega), q_up_n (by omega), q_up_n (by omega), q_up_n (by omega), q_up_n (by omega)]
    rcases (by omega : k = 4 ∨ k = 5 ∨ k = 6 ∨ k = 7) with rfl | rfl | rfl | rfl
    · exact e (59 + 4 * j + 0) (by omega)
    · exact e (59 + 4 * j + 1) (by omega)
    · exact e (59 + 4 * j + 2) (by omega)
    · exact e (59 + 4 * j + 3) (by omega)
theorem tcM_KR {ax ay bx by' cx cy : Int} {σ : q_S} (hn : 0 ≤ σ 1 1 ∧ σ 1 1 ≤ 7) (h : KR (σ 1)) : KR (tcM ax ay bx by' cx cy σ 1) := by
  intro t t0 t1
  have e1 : tcM ax ay bx by' cx cy σ 1 1 = σ 1 1 + 1 := q_up_s
  rw [e1] at t1
  unfold tcM
  rw [q_up_n (by omega)]
  by_cases z : t = σ 1 1
  · rw [z, q_up_s]
    exact ⟨by decide, by decide⟩
  · rw [q_up_n (by omega), q_up_n (by omega), q_up_n (by omega), q_up_n (by omega), q_up_n (by omega), q_up_n (by omega), q_up_n (by omega)]
    exact h t t0 (by omega)
def vcM (x y a b : Int) (σ : q_S) : q_S := q_up (q_up (q_up (q_up (q_up σ 1 (59 + 4 * σ 1 2) x) 1 (59 + 4 * σ 1 2 + 1) y) 1 (59 + 4 * σ 1 2 + 2) a) 1 (59 + 4 * σ 1 2 + 3) b) 1 2 (σ 1 2 + 1)
theorem vcM_pE {x y a b : Int} {σ : q_S} (hn : 0 ≤ σ 1 2 ∧ σ 1 2 ≤ 3) : pE (pM (vcM x y a b σ 1)) (newV x y a b (pM (σ 1))) := by
  have e1 : pM (σ 1) 1 2 = σ 1 2 := rfl
  unfold newV
  rw [e1]
  have e : ∀ z : Int, 3 ≤ z → z < 59 → vcM x y a b σ 1 z = σ 1 z := fun z hz hz2 => by
    unfold vcM
    rw [q_up_n (by omega), q_up_n (by omega), q_up_n (by omega), q_up_n (by omega), q_up_n (by omega)]
  refine ⟨fun j p q => ?_, fun j p q => ?_, fun j p q => ?_, fun k j p q r u => ?_⟩
  · show vcM x y a b σ 1 j = _
    unfold vcM
    refine up_ag Iff.rfl ?_
    rw [q_up_n (by omega), q_up_n (by omega), q_up_n (by omega), q_up_n (by omega), q_up_n (by omega), q_up_n (by omega), q_up_n (by omega), q_up_n (by omega)]
    rfl
  · rw [q_up_n (by omega), q_up_n (by omega), q_up_n (by omega), q_up_n (by omega), q_up_n (by omega)]
    exact e (3 + j) (by omega) (by omega)
  · rw [q_up_n (by omega), q_up_n (by omega), q_up_n (by omega), q_up_n (by omega), q_up_n (by omega)]
    show (if vcM x y a b σ 1 (51 + j) = -1 then (12 : Int) else vcM x y a b σ 1 (51 + j)) = _
    rw [e (51 + j) (by omega) (by omega)]
    rfl
  · rcases (by omega : k = 4 ∨ k = 5 ∨ k = 6 ∨ k = 7) with rfl | rfl | rfl | rfl
    · show vcM x y a b σ 1 (59 + 4 * j + 0) = _
      unfold vcM
      rw [q_up_n (by omega), q_up_n (by omega), q_up_n (by omega), q_up_n (by omega)]
      rw [q_up_n (c := 1) (c' := 4) (by omega), q_up_n (c := 7) (c' := 4) (by omega), q_up_n (c := 6) (c' := 4) (by omega), q_up_n (c := 5) (c' := 4) (by omega)]
      exact up_ag (by omega) rfl
    · show vcM x y a b σ 1 (59 + 4 * j + 1) = _
      unfold vcM
      rw [q_up_n (by omega), q_up_n (by omega), q_up_n (by omega)]
      rw [q_up_n (c := 1) (c' := 5) (by omega), q_up_n (c := 7) (c' := 5) (by omega), q_up_n (c := 6) (c' := 5) (by omega)]
      refine up_ag (by omega) ?_
      rw [q_up_n (by omega), q_up_n (c := 4) (c' := 5) (by omega)]
      rfl
    · show vcM x y a b σ 1 (59 + 4 * j + 2) = _
      unfold vcM
      rw [q_up_n (by omega), q_up_n (by omega)]
      rw [q_up_n (c := 1) (c' := 6) (by omega), q_up_n (c := 7) (c' := 6) (by omega)]
      refine up_ag (by omega) ?_
      rw [q_up_n (by omega), q_up_n (by omega), q_up_n (c := 5) (c' := 6) (by omega), q_up_n (c := 4) (c' := 6) (by omega)]
      rfl
    · show vcM x y a b σ 1 (59 + 4 * j + 3) = _
      unfold vcM
      rw [q_up_n (by omega)]
      rw [q_up_n (c := 1) (c' := 7) (by omega)]
      refine up_ag (by omega) ?_
      rw [q_up_n (by omega), q_up_n (by omega), q_up_n (by omega), q_up_n (c := 6) (c' := 7) (by omega), q_up_n (c := 5) (c' := 7) (by omega), q_up_n (c := 4) (c' := 7) (by omega)]
      rfl
theorem vcM_KR {x y a b : Int} {σ : q_S} (hn : 0 ≤ σ 1 2 ∧ σ 1 2 ≤ 3) (hn1 : σ 1 1 ≤ 8) (h : KR (σ 1)) : KR (vcM x y a b σ 1) := by
  have e : ∀ z : Int, z ≠ 2 → z < 59 → vcM x y a b σ 1 z = σ 1 z := fun z hz hz2 => by
    unfold vcM
    rw [q_up_n (by omega), q_up_n (by omega), q_up_n (by omega), q_up_n (by omega), q_up_n (by omega)]
  intro t t0 t1
  rw [e 1 (by decide) (by decide)] at t1
  rw [e (51 + t) (by omega) (by omega)]
  exact h t t0 t1
theorem ite_n {p : Prop} [Decidable p] {a b : Int} (h : ¬ p) : (if p then a else b) = b := if_neg h
theorem kc_pE {t k : Int} {n : Int → Int} (ht : 0 ≤ t ∧ t < 8) : pE (pM (fun x => if x = 51 + t then k else n x)) (q_up (pM n) 3 t (if k = -1 then 12 else k)) := by
  refine ⟨fun j a b => ?_, fun j a b => ?_, fun j a b => ?_, fun c j a b p q => ?_⟩
  · rw [q_up_n (by omega)]
    show (if j = 51 + t then k else n j) = n j
    exact ite_n (by omega)
  · rw [q_up_n (by omega)]
    show (if 3 + j = 51 + t then k else n (3 + j)) = n (3 + j)
    exact ite_n (by omega)
  · show (if (if 51 + j = 51 + t then k else n (51 + j)) = -1 then (12 : Int) else if 51 + j = 51 + t then k else n (51 + j)) = _
    by_cases e : j = t
    · rw [e, q_up_s, if_pos rfl]
    · have e2 : ¬ 51 + j = 51 + t := by omega
      rw [q_up_n (fun z => e z.2), if_neg e2]
      rfl
  · rw [q_up_n (by omega)]
    have e : ∀ x : Int, 59 ≤ x → (if x = 51 + t then k else n x) = n x := fun x hx => ite_n (by omega)
    rcases (by omega : c = 4 ∨ c = 5 ∨ c = 6 ∨ c = 7) with rfl | rfl | rfl | rfl
    · exact e (59 + 4 * j + 0) (by omega)
    · exact e (59 + 4 * j + 1) (by omega)
    · exact e (59 + 4 * j + 2) (by omega)
    · exact e (59 + 4 * j + 3) (by omega)
theorem c1_pE {i v : Int} {n : Int → Int} (hi : 0 ≤ i ∧ i < 3) : pE (pM (fun x => if x = i then v else n x)) (q_up (pM n) 1 i v) := by
  have e : ∀ x : Int, 3 ≤ x → (if x = i then v else n x) = n x := fun x hx => ite_n (by omega)
  refine ⟨fun j a b => ?_, fun j a b => ?_, fun j a b => ?_, fun c j a b p q => ?_⟩
  · by_cases e : j = i
    · rw [e, q_up_s]
      show (if i = i then v else n i) = v
      exact if_pos rfl
    · rw [q_up_n (fun z => e z.2)]
      show (if j = i then v else n j) = n j
      exact ite_n e
  · rw [q_up_n (by omega)]
    exact e (3 + j) (by omega)
  · rw [q_up_n (by omega)]
    show (if (if 51 + j = i then v else n (51 + j)) = -1 then (12 : Int) else if 51 + j = i then v else n (51 + j)) = _
    rw [e (51 + j) (by omega)]
    rfl
  · rw [q_up_n (by omega)]
    rcases (by omega : c = 4 ∨ c = 5 ∨ c = 6 ∨ c = 7) with rfl | rfl | rfl | rfl
    · exact e (59 + 4 * j + 0) (by omega)
    · exact e (59 + 4 * j + 1) (by omega)
    · exact e (59 + 4 * j + 2) (by omega)
    · exact e (59 + 4 * j + 3) (by omega)
theorem up_fn {σ : q_S} {c k v : Int} : q_up σ c k v c = fun x => if x = k then v else σ c x := by
  funext x
  unfold q_up
  by_cases e : x = k
  · rw [if_pos ⟨rfl, e⟩, if_pos e]
  · rw [if_neg (fun z => e z.2), if_neg e]
theorem kpM_o {σ : q_S} {c x : Int} (hc : c ≠ 8) (h : ¬ (c = 0 ∧ x = 9)) : kpM σ c x = σ c x := by
  unfold kpM
  split
  · rw [q_up_n h, cpy_n (fun z => hc z.1), q_up_n h, shf_o hc]
  · rw [q_up_n h, cpy_n (fun z => hc z.1)]
theorem kpM_1 {σ : q_S} : kpM σ 1 = σ 1 := funext fun x => kpM_o (by decide) (by omega)
theorem kpM_9 {σ : q_S} : kpM σ 0 9 = if σ 0 9 = 8 then 8 else σ 0 9 + 1 := by
  unfold kpM
  split
  · exact q_up_s
  · exact q_up_s
def chM (σ : q_S) (p : Int × q_S) (σ' : q_S) : Prop := (0 ≤ p.1 ∧ ∃ σ1 s', σ' = ovM σ1 s' ∧ (∀ c, c ≠ 1 → σ1 c = kpM σ c) ∧ pE (pM (σ1 1)) p.2 ∧ KR (σ1 1)) ∨ (p.1 < 0 ∧ ∃ s', σ' = ovM σ s')
