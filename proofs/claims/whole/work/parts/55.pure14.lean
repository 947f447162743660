/-! naming: those asked are the members not told, each once -/
theorem mlp_cov {o : Int} : ∀ (n : Nat) (i f : Int) (g : Int → Int), f + nbL o n i ≤ 4 → ∀ t, i ≤ t → t < i + n → q_and (q_shr o t) 1 = 1 → ∃ j, f ≤ j ∧ j < f + nbL o n i ∧ (mlp o n i f g).2 j = t := by
  intro n
  induction n with
  | zero => intro i f g _ t h1 h2 _; omega
  | succ n ih =>
    intro i f g h t h1 h2 ht
    have h0 := nbL_0 (o := o) n (i + 1)
    rw [nbL] at h ⊢
    by_cases hb : q_and (q_shr o i) 1 = 1
    · rw [if_pos hb] at h ⊢
      rw [mlp, if_pos (by omega), if_pos hb]
      by_cases e : t = i
      · refine ⟨f, by omega, by omega, ?_⟩
        rw [(mlp_2 (o := o) n (i + 1) (f + 1) (fun j => if j = f then i else g j) (by omega) f).1 (by omega), if_pos rfl, e]
      · obtain ⟨j, j1, j2, j3⟩ := ih (i + 1) (f + 1) (fun j => if j = f then i else g j) (by omega) t (by omega) (by omega) ht
        exact ⟨j, by omega, by omega, j3⟩
    · rw [if_neg hb] at h ⊢
      have hti : t ≠ i := fun z => by rw [z] at ht; exact hb ht
      by_cases hf : f < 4
      · rw [mlp, if_pos hf, if_neg hb]
        obtain ⟨j, j1, j2, j3⟩ := ih (i + 1) f g (by omega) t (by omega) (by omega) ht
        exact ⟨j, by omega, by omega, j3⟩
      · obtain ⟨j, j1, j2, j3⟩ := ih (i + 1) f g (by omega) t (by omega) (by omega) ht
        omega
theorem mem_cov {nt a o t : Int} (hn : 0 ≤ nt ∧ nt ≤ 8) (h : tieok nt a o) (ht : 0 ≤ t ∧ t < nt) (hb : t = a ∨ q_and (q_shr o t) 1 = 1) : ∃ j, 0 ≤ j ∧ j < mC a o nt ∧ mF a o nt j = t := by
  have hbb := tie_bits hn h
  have hC : mC a o nt = (if a = -1 then 0 else 1) + nbL o nt.toNat 0 := mem_1 hn h (fun _ => 0)
  by_cases ha : a = -1
  · rw [if_pos ha] at hC
    have hz : q_and (q_shr o t) 1 = 1 := by
      rcases hb with e | e
      · omega
      · exact e
    obtain ⟨j, j1, j2, j3⟩ := mlp_cov (o := o) nt.toNat 0 0 (fun _ => 0) (by omega) t (by omega) (by omega) hz
    refine ⟨j, j1, by omega, ?_⟩
    unfold mF mem0
    rw [if_pos ha]
    exact j3
  · rw [if_neg ha] at hC
    by_cases hta : t = a
    · exact ⟨0, by omega, by omega, by rw [((mem_F hn h).2 ha).1, hta]⟩
    · have hz : q_and (q_shr o t) 1 = 1 := hb.resolve_left hta
      obtain ⟨j, j1, j2, j3⟩ := mlp_cov (o := o) nt.toNat 0 1 (fun j => if j = 0 then a else 0) (by omega) t (by omega) (by omega) hz
      refine ⟨j, by omega, by omega, ?_⟩
      unfold mF mem0
      rw [if_neg ha]
      exact j3
theorem mlp_inc {o : Int} : ∀ (n : Nat) (i f : Int) (g : Int → Int), f + nbL o n i ≤ 4 → ∀ j j', f ≤ j → j < j' → j' < f + nbL o n i → (mlp o n i f g).2 j < (mlp o n i f g).2 j' := by
  intro n
  induction n with
  | zero =>
    intro i f g _ j j' h1 h2 h3
    rw [nbL] at h3
    omega
  | succ n ih =>
    intro i f g h j j' h1 h2 h3
    have h0 := nbL_0 (o := o) n (i + 1)
    rw [nbL] at h h3
    by_cases hb : q_and (q_shr o i) 1 = 1
    · rw [if_pos hb] at h h3
      rw [mlp, if_pos (by omega), if_pos hb]
      by_cases e : j = f
      · have e1 := (mlp_2 (o := o) n (i + 1) (f + 1) (fun j => if j = f then i else g j) (by omega) j).1 (by omega)
        have e2 := (mlp_2 (o := o) n (i + 1) (f + 1) (fun j => if j = f then i else g j) (by omega) j').2 (by omega) (by omega)
        rw [e1, if_pos e]
        omega
      · exact ih (i + 1) (f + 1) _ (by omega) j j' (by omega) h2 (by omega)
    · rw [if_neg hb] at h h3
      by_cases hf : f < 4
      · rw [mlp, if_pos hf, if_neg hb]
        exact ih (i + 1) f g (by omega) j j' h1 h2 (by omega)
      · omega
theorem mF_inj {nt a o j j' : Int} (hn : 0 ≤ nt ∧ nt ≤ 8) (h : tieok nt a o) (h0 : 0 ≤ j) (h1 : j < j') (h2 : j' < mC a o nt) : mF a o nt j ≠ mF a o nt j' := by
  have hbb := tie_bits hn h
  have hC : mC a o nt = (if a = -1 then 0 else 1) + nbL o nt.toNat 0 := mem_1 hn h (fun _ => 0)
  by_cases ha : a = -1
  · rw [if_pos ha] at hC
    have := mlp_inc (o := o) nt.toNat 0 0 (fun _ => 0) (by omega) j j' h0 h1 (by omega)
    unfold mF mem0
    rw [if_pos ha]
    omega
  · rw [if_neg ha] at hC
    by_cases e : j = 0
    · rw [e, ((mem_F hn h).2 ha).1]
      exact fun z => ((mem_F hn h).2 ha).2 j' (by omega) h2 z.symm
    · have := mlp_inc (o := o) nt.toNat 0 1 (fun j => if j = 0 then a else 0) (by omega) j j' (by omega) h1 (by omega)
      unfold mF mem0
      rw [if_neg ha]
      dsimp only
      omega
/-- the asked ones: not told, each once, all -/
theorem akL_who {f kd g : Int → Int} {a : Int} : ∀ (n : Nat) (i : Int) (A : q_A5), 0 ≤ A.2.2.2.2 →
    (∀ j j', i ≤ j → j < j' → j' < i + n → g j ≠ g j') → (∀ x, 0 ≤ x → x < A.2.2.2.2 → kd (A.2.1 x) = 12 ∧ ∀ j, i ≤ j → j < i + n → A.2.1 x ≠ g j) → (∀ x x', 0 ≤ x → x < x' → x' < A.2.2.2.2 → A.2.1 x ≠ A.2.1 x') →
    (∀ x, 0 ≤ x → x < (akL f kd a g n i A).2.2.2.2 → kd ((akL f kd a g n i A).2.1 x) = 12) ∧ (∀ x x', 0 ≤ x → x < x' → x' < (akL f kd a g n i A).2.2.2.2 → (akL f kd a g n i A).2.1 x ≠ (akL f kd a g n i A).2.1 x') ∧ (∀ j, i ≤ j → j < i + n → kd (g j) = 12 → ∃ x, 0 ≤ x ∧ x < (akL f kd a g n i A).2.2.2.2 ∧ (akL f kd a g n i A).2.1 x = g j) := by
  intro n
  induction n with
  | zero => intro i A _ _ h1 h2; exact ⟨fun x a b => (h1 x a b).1, h2, fun j a b => by omega⟩
  | succ n ih =>
    intro i A hk hg h1 h2
    rw [akL]
    by_cases h : kd (g i) = 12
    · have e : akS f kd a (g i) A = pushA A (g i) (sgn (lB f (6 * g i))) (if g i = a then 1 else -1) := by unfold akS; rw [if_pos h]
      have ek : (akS f kd a (g i) A).2.2.2.2 = A.2.2.2.2 + 1 := by rw [e]; rfl
      have eo : ∀ x, (akS f kd a (g i) A).2.1 x = if x = A.2.2.2.2 then g i else A.2.1 x := fun x => by rw [e]; rfl
      have hz := ih (i + 1) (akS f kd a (g i) A) (by omega) (fun j j' a1 a2 a3 => hg j j' (by omega) a2 (by omega)) (fun x x0 x1 => by
          rw [eo]
          by_cases ex : x = A.2.2.2.2
          · rw [if_pos ex]
            exact ⟨h, fun j a1 a2 => hg i j (by omega) (by omega) (by omega)⟩
          · rw [if_neg ex]
            have := h1 x x0 (by omega)
            exact ⟨this.1, fun j a1 a2 => this.2 j (by omega) (by omega)⟩) (fun x x' x0 x1 x2 => by
          rw [eo, eo]
          by_cases ex : x' = A.2.2.2.2
          · rw [if_neg (by omega), if_pos ex]
            exact (h1 x x0 (by omega)).2 i (by omega) (by omega)
          · rw [if_neg (by omega), if_neg ex]
            exact h2 x x' x0 x1 (by omega))
      refine ⟨hz.1, hz.2.1, fun j a1 a2 a3 => ?_⟩
      by_cases ej : j = i
      · have hkeep := akL_keep (f := f) (kd := kd) (g := g) (a := a) n (i + 1) (akS f kd a (g i) A) (by omega)
        refine ⟨A.2.2.2.2, hk, by omega, ?_⟩
        rw [hkeep.2 A.2.2.2.2 hk (by omega), eo, if_pos rfl, ej]
      · exact hz.2.2 j (by omega) (by omega) a3
    · have e : akS f kd a (g i) A = (addE A.1 (if g i = a then 1 else -1) (kd (g i)), A.2) := by unfold akS; rw [if_neg h]
      have hz := ih (i + 1) (akS f kd a (g i) A) (by rw [e]; exact hk) (fun j j' a1 a2 a3 => hg j j' (by omega) a2 (by omega)) (by rw [e]; exact fun x x0 x1 => ⟨(h1 x x0 x1).1, fun j a1 a2 => (h1 x x0 x1).2 j (by omega) (by omega)⟩) (by rw [e]; exact h2)
      refine ⟨hz.1, hz.2.1, fun j a1 a2 a3 => ?_⟩
      by_cases ej : j = i
      · rw [ej] at a3
        exact absurd a3 h
      · exact hz.2.2 j (by omega) (by omega) a3
theorem akA_who {f kd : Int → Int} {nt a b : Int} (hn : 0 ≤ nt ∧ nt ≤ 8) (h : tieok nt a b) : (∀ x, 0 ≤ x → x < (akA f kd nt a b).2.2.2.2 → kd ((akA f kd nt a b).2.1 x) = 12 ∧ 0 ≤ (akA f kd nt a b).2.1 x ∧ (akA f kd nt a b).2.1 x < nt) ∧ (∀ x x', 0 ≤ x → x < x' → x' < (akA f kd nt a b).2.2.2.2 → (akA f kd nt a b).2.1 x ≠ (akA f kd nt a b).2.1 x') ∧ (∀ t, 0 ≤ t → t < nt → (t = a ∨ q_and (q_shr b t) 1 = 1) → kd t = 12 → ∃ x, 0 ≤ x ∧ x < (akA f kd nt a b).2.2.2.2 ∧ (akA f kd nt a b).2.1 x = t) := by
  have hc := mem_C hn h
  have hf := (mem_F hn h).1
  have hw := akL_who (f := f) (kd := kd) (g := mF a b nt) (a := a) (mC a b nt).toNat 0 A0 (by decide) (fun j j' h0 h1 h2 => mF_inj hn h h0 h1 (by omega)) (fun x x0 x1 => absurd x1 (by show ¬ x < 0; omega)) (fun x x' x0 x1 x2 => absurd x2 (by show ¬ x' < 0; omega))
  have how := akL_ow (f := f) (kd := kd) (a := a) (g := mF a b nt) (nt := nt) (mC a b nt).toNat 0 A0 (by decide) (fun j x y => absurd y (by show ¬ j < 0; omega)) (fun j x y => hf j x (by omega))
  refine ⟨fun x x0 x1 => ⟨hw.1 x x0 x1, how x x0 x1⟩, hw.2.1, fun t t0 t1 hb hz => ?_⟩
  obtain ⟨j, j0, j1, j2⟩ := mem_cov hn h ⟨t0, t1⟩ hb
  rw [← j2] at hz ⊢
  exact hw.2.2 j j0 (by omega) hz
theorem ak2_k {A : q_A5} {a lost : Int} : (ak2 A a lost).2.2.2.2 = A.2.2.2.2 + (if a = -1 then 1 else 0) + (if lost = 1 then 1 else 0) := by
  have hp : ∀ (B : q_A5) (x y z : Int), (pushA B x y z).2.2.2.2 = B.2.2.2.2 + 1 := fun _ _ _ _ => rfl
  unfold ak2
  by_cases hl : lost = 1
  · by_cases ha : a = -1
    · simp only [if_pos hl, if_pos ha, hp]
    · simp only [if_pos hl, if_neg ha, hp]
      omega
  · by_cases ha : a = -1
    · simp only [if_neg hl, if_pos ha, hp]
      omega
    · simp only [if_neg hl, if_neg ha]
      omega
theorem ak2_ch {A : q_A5} {a lost : Int} (hk : 0 ≤ A.2.2.2.2) : ag A.2.2.2.2 (ak2 A a lost).2.2.1 A.2.2.1 ∧ ∀ x, A.2.2.2.2 ≤ x → x < (ak2 A a lost).2.2.2.2 → (ak2 A a lost).2.2.1 x = 0 := by
  have hp : ∀ (B : q_A5) (x y z : Int), (pushA B x y z).2.2.2.2 = B.2.2.2.2 + 1 := fun _ _ _ _ => rfl
  have hq : ∀ (B : q_A5) (x y z j : Int), (pushA B x y z).2.2.1 j = if j = B.2.2.2.2 then y else B.2.2.1 j := fun _ _ _ _ _ => rfl
  unfold ak2
  by_cases hl : lost = 1
  · by_cases ha : a = -1
    · simp only [if_pos hl, if_pos ha]
      refine ⟨fun j j0 j1 => ?_, fun x x0 x1 => ?_⟩
      · rw [hq, hp, if_neg (by omega), hq, if_neg (by omega)]
      · rw [hp, hp] at x1
        rw [hq, hp]
        by_cases e : x = A.2.2.2.2 + 1
        · rw [if_pos e]
        · rw [if_neg e, hq, if_pos (by omega)]
    · simp only [if_pos hl, if_neg ha]
      refine ⟨fun j j0 j1 => ?_, fun x x0 x1 => ?_⟩
      · rw [hq, if_neg (by omega)]
      · rw [hp] at x1
        rw [hq, if_pos (by omega)]
  · by_cases ha : a = -1
    · simp only [if_neg hl, if_pos ha]
      refine ⟨fun j j0 j1 => ?_, fun x x0 x1 => ?_⟩
      · rw [hq, if_neg (by omega)]
      · rw [hp] at x1
        rw [hq, if_pos (by omega)]
    · simp only [if_neg hl, if_neg ha]
      exact ⟨ag_refl, fun x x0 x1 => by omega⟩
theorem akL_ch {f kd g : Int → Int} {a : Int} : ∀ (n : Nat) (i : Int) (A : q_A5), 0 ≤ A.2.2.2.2 → (∀ x, 0 ≤ x → x < A.2.2.2.2 → A.2.2.1 x = sgn (lB f (6 * A.2.1 x))) → ∀ x, 0 ≤ x → x < (akL f kd a g n i A).2.2.2.2 → (akL f kd a g n i A).2.2.1 x = sgn (lB f (6 * (akL f kd a g n i A).2.1 x)) := by
  intro n
  induction n with
  | zero => intro i A _ h; exact h
  | succ n ih =>
    intro i A hk h
    rw [akL]
    by_cases hz : kd (g i) = 12
    · have e : akS f kd a (g i) A = pushA A (g i) (sgn (lB f (6 * g i))) (if g i = a then 1 else -1) := by unfold akS; rw [if_pos hz]
      rw [e]
      refine ih (i + 1) _ (by show 0 ≤ A.2.2.2.2 + 1; omega) (fun x x0 x1 => ?_)
      show (if x = A.2.2.2.2 then sgn (lB f (6 * g i)) else A.2.2.1 x) = sgn (lB f (6 * (if x = A.2.2.2.2 then g i else A.2.1 x)))
      by_cases ex : x = A.2.2.2.2
      · rw [if_pos ex, if_pos ex]
      · rw [if_neg ex, if_neg ex]
        exact h x x0 (by have : x < A.2.2.2.2 + 1 := x1; omega)
    · have e : akS f kd a (g i) A = (addE A.1 (if g i = a then 1 else -1) (kd (g i)), A.2) := by unfold akS; rw [if_neg hz]
      rw [e]
      exact ih (i + 1) _ hk h
theorem lawB_ag {L : Int} {E E' : Int → Int} (h : ag 4 E E') : lawB L E = true ↔ lawB L E' = true := by
  rw [lawB_t, lawB_t]
  exact lawful_ag h
theorem enL_le {P : (Int → Int) → Bool} {s : q_W3} : s.2.2 ≤ (enL P s).2.2 ∧ (enL P s).2.2 ≤ s.2.2 + 1 := by
  unfold enL
  split
  · dsimp only
    omega
  · omega
theorem enum_le {ch : Int → Int} {P : (Int → Int) → Bool} : ∀ (n : Nat) (k : Int) (s : q_W3), s.2.2 ≤ (enum ch P n k s).2.2 ∧ (enum ch P n k s).2.2 ≤ s.2.2 + 12 ^ n := by
  intro n
  induction n with
  | zero =>
    intro k s
    have := enL_le (P := P) (s := s)
    rw [enum]
    have e : (12 : Int) ^ 0 = 1 := rfl
    omega
  | succ n ih =>
    intro k s
    rw [enum]
    have := kf_le (B := 12 ^ n) (g := fun kd s => if num kd 0 = ch k then enum ch P n (k + 1) (ud s.1 k kd, s.2) else s) (fun i s => by
      have hp : (0 : Int) < 12 ^ n := Int.pow_pos (by decide)
      split
      · exact ih (k + 1) (ud s.1 k i, s.2)
      · omega) 12 0 s
    have e : (12 : Int) ^ (n + 1) = 12 * 12 ^ n := by rw [Int.pow_succ]; omega
    refine ⟨this.1, Int.le_trans this.2 ?_⟩
    rw [e]
    show s.2.2 + ((12 : Nat) : Int) * 12 ^ n ≤ s.2.2 + 12 * 12 ^ n
    exact Int.le_refl _
/-- with all told the sums are the same -/
theorem hoE_eq {f kd nm : Int → Int} {nt a b u w : Int} (hn : 0 ≤ nt ∧ nt ≤ 8) (h : tieok nt a b) (hk : (akA f kd nt a b).2.2.2.2 = 0) (ht : ∀ t, 0 ≤ t → t < nt → kd t ≠ 12 → nm t = kd t) : ag 4 (fun q => loT nm nt a b u w q) (hoE (akA f kd nt a b) a u w) := by
  intro q q0 q1
  have hs := akL_sum (f := f) (kd := kd) (g := mF a b nt) (nm := nm) (row := fun _ => 0) (a := a) ⟨q0, q1⟩ (mC a b nt).toNat 0 A0 (by decide) (fun x x0 x1 => by
    have e : (akL f kd a (mF a b nt) (mC a b nt).toNat 0 A0).2.2.2.2 = 0 := hk
    have x0 : (0 : Int) ≤ x := x0
    omega) (fun j j0 j1 hz => by
    have := (mem_F hn h).1 j j0 (by have := (mem_C hn h).1; omega)
    exact ht _ this.1 this.2 hz)
  have hm := mem_sum (ψ := fun t => (if t = a then 1 else -1) * num (nm t) q) (φ := fun t => num (nm t) q) hn h (fun _ => by rw [if_pos rfl]; omega) (fun t hz => by rw [if_neg hz]; omega)
  have e0 : sE A0 (fun _ => 0) q = 0 := rfl
  rw [e0, hm] at hs
  have e1 : sE (akL f kd a (mF a b nt) (mC a b nt).toNat 0 A0) (fun _ => 0) q = (akA f kd nt a b).1 q := by
    have e2 : sE (akA f kd nt a b) (fun _ => 0) q = (akA f kd nt a b).1 q := by
      unfold sE
      rw [hk]
      rfl
    exact e2
  rw [e1] at hs
  unfold loT hoE
  by_cases ha : a = -1
  · by_cases hw : w = -1
    · simp only [if_pos ha, if_pos hw] at hs ⊢
      unfold addE
      rw [if_pos ⟨q0, q1⟩, hs]
      omega
    · simp only [if_pos ha, if_neg hw] at hs ⊢
      unfold addE
      rw [if_pos ⟨q0, q1⟩, if_pos ⟨q0, q1⟩, hs]
      omega
  · by_cases hw : w = -1
    · simp only [if_neg ha, if_pos hw] at hs ⊢
      rw [hs]
      omega
    · simp only [if_neg ha, if_neg hw] at hs ⊢
      unfold addE
      rw [if_pos ⟨q0, q1⟩, hs]
      omega
