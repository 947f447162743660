/-! small sets as bits; what a call makes of a picture -/
theorem andN {a b : Nat} (ha : a < 2147483648) : q_and (a : Int) (b : Int) = ((a &&& b : Nat) : Int) := by
  have e : Int32.ofInt (a : Int) &&& Int32.ofInt (b : Int) = Int32.ofInt ((a &&& b : Nat) : Int) := by
    apply Int32.toBitVec_inj.1
    rw [Int32.toBitVec_and]
    show BitVec.ofInt 32 (a : Int) &&& BitVec.ofInt 32 (b : Int) = BitVec.ofInt 32 ((a &&& b : Nat) : Int)
    rw [BitVec.ofInt_natCast, BitVec.ofInt_natCast, BitVec.ofInt_natCast, BitVec.ofNat_and]
  unfold q_and
  rw [e]
  have h := Nat.and_le_left (n := a) (m := b)
  exact q_t32 ⟨by omega, by omega⟩
theorem orN {a b : Nat} (ha : a < 256) (hb : b < 256) : q_or (a : Int) (b : Int) = ((a ||| b : Nat) : Int) ∧ a ||| b < 256 := by
  have e : Int32.ofInt (a : Int) ||| Int32.ofInt (b : Int) = Int32.ofInt ((a ||| b : Nat) : Int) := by
    apply Int32.toBitVec_inj.1
    rw [Int32.toBitVec_or]
    show BitVec.ofInt 32 (a : Int) ||| BitVec.ofInt 32 (b : Int) = BitVec.ofInt 32 ((a ||| b : Nat) : Int)
    rw [BitVec.ofInt_natCast, BitVec.ofInt_natCast, BitVec.ofInt_natCast, BitVec.ofNat_or]
  have h : a ||| b < 2 ^ 8 := Nat.or_lt_two_pow (by omega) (by omega)
  have h2 : a ||| b < 256 := h
  unfold q_or
  rw [e]
  exact ⟨q_t32 ⟨by omega, by omega⟩, h2⟩
theorem bit_tb {o t : Int} (ho : 0 ≤ o ∧ o < 256) (ht : 0 ≤ t ∧ t < 8) : q_and (q_shr o t) 1 = 1 ↔ o.toNat.testBit t.toNat = true := by
  have h := bit_iff ho ht
  unfold bit at h
  rw [h, Nat.testBit_eq_decide_div_mod_eq, decide_eq_true_eq]
  have e : (o / 2 ^ t.toNat % 2 : Int) = ((o.toNat / 2 ^ t.toNat % 2 : Nat) : Int) := by
    conv => lhs; rw [← Int.toNat_of_nonneg ho.1]
    simp
  rw [e]
  omega
theorem or_bit {b i j : Int} (hb : 0 ≤ b ∧ b < 256) (hi : 0 ≤ i ∧ i < 8) (hj : 0 ≤ j ∧ j < 8) : (0 ≤ q_or b (q_shl 1 i) ∧ q_or b (q_shl 1 i) < 256) ∧ (q_and (q_shr (q_or b (q_shl 1 i)) j) 1 = 1 ↔ (q_and (q_shr b j) 1 = 1 ∨ j = i)) := by
  have h1 := (shl_1 (n := i) (by omega)).1
  have e1 : q_shl 1 i = ((2 ^ i.toNat : Nat) : Int) := by rw [h1]; simp
  have h2 : 2 ^ i.toNat < 256 := by
    have : 2 ^ i.toNat < 2 ^ 8 := Nat.pow_lt_pow_right (by decide) (by omega)
    exact this
  have h3 := orN (a := b.toNat) (b := 2 ^ i.toNat) (by omega) h2
  rw [Int.toNat_of_nonneg hb.1] at h3
  rw [e1, h3.1]
  refine ⟨⟨by omega, by omega⟩, ?_⟩
  rw [bit_tb ⟨by omega, by omega⟩ hj, bit_tb hb hj]
  rw [Int.toNat_natCast, Nat.testBit_or, Nat.testBit_two_pow, Bool.or_eq_true, decide_eq_true_eq, show (i.toNat = j.toNat) ↔ (j = i) by omega]
theorem and_sub {F m : Int} (hF : 0 ≤ F ∧ F < 256) (hm : 0 ≤ m ∧ m < 256) : q_and F m = m ↔ ∀ j : Int, 0 ≤ j → j < 8 → q_and (q_shr m j) 1 = 1 → q_and (q_shr F j) 1 = 1 := by
  have e := andN (a := F.toNat) (b := m.toNat) (by omega)
  rw [Int.toNat_of_nonneg hF.1, Int.toNat_of_nonneg hm.1] at e
  rw [e]
  constructor
  · intro h j h0 h1 hb
    rw [bit_tb hm ⟨h0, h1⟩] at hb
    rw [bit_tb hF ⟨h0, h1⟩]
    have h2 : F.toNat &&& m.toNat = m.toNat := by omega
    rw [← h2, Nat.testBit_and, Bool.and_eq_true] at hb
    exact hb.1
  · intro h
    have h2 : F.toNat &&& m.toNat = m.toNat := by
      apply Nat.eq_of_testBit_eq
      intro i
      rw [Nat.testBit_and]
      by_cases hi : i < 8
      · cases hb : m.toNat.testBit i with
        | false => simp
        | true =>
          have h3 := h (i : Int) (by omega) (by omega)
          rw [bit_tb hm ⟨by omega, by omega⟩, bit_tb hF ⟨by omega, by omega⟩, Int.toNat_natCast] at h3
          rw [h3 hb]
          rfl
      · have h4 : m.toNat < 2 ^ i := Nat.lt_of_lt_of_le (show m.toNat < 2 ^ 8 by omega) (Nat.pow_le_pow_right (by decide) (by omega))
        rw [Nat.testBit_lt_two_pow h4]
        simp
    rw [h2]
    omega
theorem fitL_bit {f : Int → Int} {x y : Int} : ∀ (n : Nat) (i b : Int), 0 ≤ i → i + n ≤ 8 → (0 ≤ b ∧ b < 256) → (0 ≤ fitL f x y n i b ∧ fitL f x y n i b < 256) ∧ ∀ j : Int, 0 ≤ j → j < 8 → (q_and (q_shr (fitL f x y n i b) j) 1 = 1 ↔ (q_and (q_shr b j) 1 = 1 ∨ (i ≤ j ∧ j < i + n) ∧ onb f j x y = true)) := by
  intro n
  induction n with
  | zero =>
    intro i b h0 h1 hb
    refine ⟨hb, fun j _ _ => ?_⟩
    rw [fitL]
    constructor
    · exact Or.inl
    · rintro (h | h)
      · exact h
      · omega
  | succ n ih =>
    intro i b h0 h1 hb
    rw [fitL]
    by_cases ho : onb f i x y = true
    · rw [if_pos ho]
      have hob := fun j h => or_bit (j := j) hb (i := i) ⟨h0, by omega⟩ h
      have h2 := ih (i + 1) (q_or b (q_shl 1 i)) (by omega) (by omega) (hob 0 ⟨by decide, by decide⟩).1
      refine ⟨h2.1, fun j hj0 hj1 => ?_⟩
      rw [h2.2 j hj0 hj1, (hob j ⟨hj0, hj1⟩).2]
      constructor
      · rintro ((h | h) | h)
        · exact Or.inl h
        · subst h
          exact Or.inr ⟨by omega, ho⟩
        · exact Or.inr ⟨by omega, h.2⟩
      · rintro (h | h)
        · exact Or.inl (Or.inl h)
        · by_cases e : j = i
          · exact Or.inl (Or.inr e)
          · exact Or.inr ⟨by omega, h.2⟩
    · rw [if_neg ho]
      have h2 := ih (i + 1) b (by omega) (by omega) hb
      refine ⟨h2.1, fun j hj0 hj1 => ?_⟩
      rw [h2.2 j hj0 hj1]
      constructor
      · rintro (h | h)
        · exact Or.inl h
        · exact Or.inr ⟨by omega, h.2⟩
      · rintro (h | h)
        · exact Or.inl h
        · by_cases e : j = i
          · subst e
            exact absurd h.2 ho
          · exact Or.inr ⟨by omega, h.2⟩
def onAL (f : Int → Int) (a b x y : Int) : Nat → Int → Bool
  | 0, _ => true
  | n + 1, i => if (i = a ∨ q_and (q_shr b i) 1 = 1) ∧ ¬ onb f i x y = true then false else onAL f a b x y n (i + 1)
theorem onAL_iff {f : Int → Int} {a b x y : Int} : ∀ (n : Nat) (i : Int), onAL f a b x y n i = true ↔ ∀ j, i ≤ j → j < i + n → (j = a ∨ q_and (q_shr b j) 1 = 1) → onb f j x y = true := by
  intro n
  induction n with
  | zero => intro i; exact ⟨fun _ j h1 h2 => by omega, fun _ => rfl⟩
  | succ n ih =>
    intro i
    rw [onAL]
    by_cases h : (i = a ∨ q_and (q_shr b i) 1 = 1) ∧ ¬ onb f i x y = true
    · rw [if_pos h]
      refine ⟨fun z => (by cases z), fun z => absurd (z i (by omega) (by omega) h.1) h.2⟩
    · rw [if_neg h, ih (i + 1)]
      constructor
      · intro z j h1 h2 h3
        by_cases e : j = i
        · subst e
          by_cases ho : onb f j x y = true
          · exact ho
          · exact absurd ⟨h3, ho⟩ h
        · exact z j (by omega) (by omega) h3
      · intro z j h1 h2 h3
        exact z j (by omega) (by omega) h3
def needI (a b : Int) : Int := if a = -1 then b else q_or b (q_shl 1 a)
theorem tie_on {f : Int → Int} {nt a b x y : Int} (hn : 0 ≤ nt ∧ nt ≤ 8) (h : tieok nt a b) : q_and (fitL f x y nt.toNat 0 0) (needI a b) = needI a b ↔ onAL f a b x y nt.toNat 0 = true := by
  obtain ⟨h1, h2, h3, h4, h5⟩ := h
  have hs := shl_1 hn
  have hb : 0 ≤ b ∧ b < 256 := by omega
  have hF := fitL_bit (f := f) (x := x) (y := y) nt.toNat 0 0 (by decide) (by omega) (by decide)
  have hz : ∀ j : Int, 0 ≤ j → j < 8 → ¬ q_and (q_shr 0 j) 1 = 1 := by
    intro j j0 j1
    rw [bit_tb (by decide) ⟨j0, j1⟩]
    simp
  have hm : (0 ≤ needI a b ∧ needI a b < 256) ∧ ∀ j, 0 ≤ j → j < 8 → (q_and (q_shr (needI a b) j) 1 = 1 ↔ (j = a ∨ q_and (q_shr b j) 1 = 1)) := by
    unfold needI
    by_cases ha : a = -1
    · rw [if_pos ha]
      exact ⟨hb, fun j j0 j1 => ⟨Or.inr, fun z => z.elim (fun z => by omega) id⟩⟩
    · rw [if_neg ha]
      have hob := fun j h => or_bit (j := j) hb (i := a) ⟨by omega, by omega⟩ h
      exact ⟨(hob 0 (by decide)).1, fun j j0 j1 => by rw [(hob j ⟨j0, j1⟩).2]; exact Or.comm⟩
  have hbn : ∀ j, nt ≤ j → j < 8 → 0 ≤ j → ¬ q_and (q_shr b j) 1 = 1 := by
    intro j j0 j1 j2
    rw [bit_tb hb ⟨j2, j1⟩]
    have e1 : (b.toNat : Int) < ((2 ^ nt.toNat : Nat) : Int) := by
      rw [Int.toNat_of_nonneg hb.1]
      have : ((2 ^ nt.toNat : Nat) : Int) = 2 ^ nt.toNat := by simp
      rw [this, ← hs.1]
      exact h3
    have e2 : b.toNat < 2 ^ j.toNat := Nat.lt_of_lt_of_le (show b.toNat < 2 ^ nt.toNat by omega) (Nat.pow_le_pow_right (by decide) (by omega))
    rw [Nat.testBit_lt_two_pow e2]
    simp
  rw [and_sub hF.1 hm.1, onAL_iff]
  constructor
  · intro z j j0 j1 hj
    have := z j j0 (by omega) ((hm.2 j j0 (by omega)).mpr hj)
    rw [hF.2 j j0 (by omega)] at this
    rcases this with t | t
    · exact absurd t (hz j j0 (by omega))
    · exact t.2
  · intro z j j0 j1 hj
    rw [hm.2 j j0 j1] at hj
    have hjn : j < nt := by
      rcases hj with e | e
      · omega
      · by_cases hh : j < nt
        · exact hh
        · exact absurd e (hbn j (by omega) j1 j0)
    rw [hF.2 j j0 j1]
    exact Or.inr ⟨⟨by omega, by omega⟩, z j j0 (by omega) hj⟩
def rmB (a o : Int → Int) (t : Int) : Nat → Int → Bool
  | 0, _ => false
  | n + 1, i => if a i = t ∨ q_and (q_shr (o i) t) 1 = 1 then true else rmB a o t n (i + 1)
theorem rmB_t {a o : Int → Int} {t : Int} : ∀ (n : Nat) (i : Int), rmB a o t n i = true ↔ rmv a o t n i := by
  intro n
  induction n with
  | zero => intro i; exact ⟨fun h => (by cases h), fun h => h.elim⟩
  | succ n ih =>
    intro i
    rw [rmB, rmv]
    by_cases h : a i = t ∨ q_and (q_shr (o i) t) 1 = 1
    · rw [if_pos h]
      exact ⟨fun _ => Or.inl h, fun _ => rfl⟩
    · rw [if_neg h, ih]
      exact ⟨Or.inr, fun z => z.elim (fun z => absurd z h) id⟩
def tieB (nt a b : Int) : Bool := decide ((a = -1 ∨ 0 ≤ a ∧ a < nt) ∧ 1 ≤ b ∧ b < q_shl 1 nt ∧ popc b ≤ 3 ∧ (a = -1 ∨ q_and (q_shr b a) 1 = 0))
theorem tieB_t {nt a b : Int} : tieB nt a b = true ↔ tieok nt a b := by
  unfold tieB tieok
  rw [decide_eq_true_eq]
def gridB (x y : Int) : Prop := (-20 ≤ x ∧ x ≤ 20) ∧ -20 ≤ y ∧ y ≤ 20
def oF (x : Int) (σ : q_S) : Int × q_S := if 1 ≤ x ∧ x ≤ 9 then (σ 1 0, q_up σ 1 0 x) else (-1, σ)
def newT (ax ay bx by' cx cy : Int) (σ : q_S) : q_S := q_up (q_up (q_up (q_up (q_up (q_up (q_up (q_up σ 2 (6 * σ 1 1) ax) 2 (6 * σ 1 1 + 1) ay) 2 (6 * σ 1 1 + 2) bx) 2 (6 * σ 1 1 + 3) by') 2 (6 * σ 1 1 + 4) cx) 2 (6 * σ 1 1 + 5) cy) 3 (σ 1 1) 12) 1 1 (σ 1 1 + 1)
def oT (ax ay bx by' cx cy : Int) (σ : q_S) : Int × q_S := if ¬ (((-20 ≤ ax ∧ ax ≤ 20) ∧ -20 ≤ ay ∧ ay ≤ 20) ∧ ((-20 ≤ bx ∧ bx ≤ 20) ∧ -20 ≤ by' ∧ by' ≤ 20) ∧ ((-20 ≤ cx ∧ cx ≤ 20) ∧ -20 ≤ cy ∧ cy ≤ 20)) then (-1, σ) else if ((ax = bx ∧ ay = by' ∨ ax = cx ∧ ay = cy) ∨ bx = cx ∧ by' = cy) then (-5, σ) else if σ 1 1 = 8 then (-3, σ) else (σ 1 1, newT ax ay bx by' cx cy σ)
def oK (t k : Int) (σ : q_S) : Int × q_S := if ¬ (0 ≤ t ∧ t < σ 1 1) ∨ ¬ (k = -1 ∨ 0 ≤ k ∧ k < 12) then (-1, σ) else if k ≠ -1 ∧ num k 0 ≠ sgn (lB (σ 2) (6 * t)) then (-5, σ) else (σ 3 t, q_up σ 3 t (if k = -1 then 12 else k))
def newV (x y a b : Int) (σ : q_S) : q_S := q_up (q_up (q_up (q_up (q_up σ 4 (σ 1 2) x) 5 (σ 1 2) y) 6 (σ 1 2) a) 7 (σ 1 2) b) 1 2 (σ 1 2 + 1)
def oV (x y a b : Int) (σ : q_S) : Int × q_S := if ¬ ((-20 ≤ x ∧ x ≤ 20) ∧ -20 ≤ y ∧ y ≤ 20) ∨ ¬ tieB (σ 1 1) a b = true then (-1, σ) else if ¬ onAL (σ 2) a b x y (σ 1 1).toNat 0 = true then (-5, σ) else if σ 1 2 = 4 then (-3, σ) else (σ 1 2, newV x y a b σ)
def oD (σ : q_S) : Int × q_S := if σ 1 2 = 0 then (-5, σ) else (σ 1 2 - 1, q_up σ 1 2 (σ 1 2 - 1))
def oW (σ : q_S) : Int × q_S := if σ 1 1 = 0 ∨ rmB (σ 6) (σ 7) (σ 1 1 - 1) (σ 1 2).toNat 0 = true then (-5, σ) else (σ 1 1 - 1, q_up σ 1 1 (σ 1 1 - 1))
def stl (σ : q_S) : q_S := q_up (q_up σ 8 1 ((σ 8 1 + 1).tmod 9)) 8 2 (if 8 < σ 8 2 + 1 then 8 else σ 8 2 + 1)
def fin (p : Int × q_S) : q_S := if 0 ≤ p.1 then stl p.2 else p.2
