theorem lmX1_29 : Cond.methodLink RX1 29 yJ9_min_7cf53 ∈ q_words := q_mem 394 (by decide +kernel) (by decide +kernel)
theorem lmX2_44 : Cond.methodLink RX2 44 yJ9_abs_0f7a4 ∈ q_words := q_mem 669 (by decide +kernel) (by decide +kernel)
theorem lmX4_26 : Cond.methodLink RX4 26 yJ9_abs_067f4 ∈ q_words := q_mem 581 (by decide +kernel) (by decide +kernel)
theorem lmX4_44 : Cond.methodLink RX4 44 yJ9_max_f86c9 ∈ q_words := q_mem 616 (by decide +kernel) (by decide +kernel)
theorem lmX7_192 : Cond.methodLink RX7 192 yJ9_abs_067f4 ∈ q_words := q_mem 540 (by decide +kernel) (by decide +kernel)
theorem lmX7_350 : Cond.methodLink RX7 350 yJ9_max_f86c9 ∈ q_words := q_mem 549 (by decide +kernel) (by decide +kernel)
theorem lmJ1_92 : Cond.methodLink RJ1 92 yJ9_max_7cf53 ∈ q_words := q_mem 812 (by decide +kernel) (by decide +kernel)
theorem lmJ1_38 : Cond.methodLink RJ1 38 yJ9_min_7cf53 ∈ q_words := q_mem 815 (by decide +kernel) (by decide +kernel)
theorem lmJ2_224 : Cond.methodLink RJ2 224 yJ9_max_7cf53 ∈ q_words := q_mem 822 (by decide +kernel) (by decide +kernel)
theorem lmJ2_183 : Cond.methodLink RJ2 183 yJ9_min_7cf53 ∈ q_words := q_mem 823 (by decide +kernel) (by decide +kernel)
theorem q_mabsL {M : q_M} {sh : q_H} {pc n : Nat} {ls : List (Option q_V)} {st : List q_V} {σ : q_S} {Q : Option q_V → q_S → Prop} {idx : Nat} {x : Int} (hd : decode (q_cc M) pc = .ok (.invokestatic idx, 3)) (hn : pc + 3 = n) (hlk : Cond.methodLink (q_own M) idx yJ9_abs_067f4 ∈ q_words) (hdp : Nat.ble 1 (q_dp M) = true) (hw : Nat.ble (q_sum st + 13) (64 * q_dp M) = true) (hx : -9223372036854775808 < x) (kk : q_WP M sh n ls (.inr (.inl (if 0 ≤ x then x else -x)) :: st) σ Q) : q_WP M sh pc ls (.inr (.inl x) :: st) σ Q := by
  subst hn
  intro p l e s m args below meth c D cs ad H locs la Qf E L O
  have hc := q_hw E.1.2.2.2.2.1 vJ9_abs_067f4.1.1
  have hi := q_hw E.1.2.2.2.2.1 vJ9_abs_067f4.1.2.1
  have hs := q_hw E.1.2.2.2.2.1 vJ9_abs_067f4.2
  have hl := q_hw E.1.2.2.2.2.1 hlk
  refine va_mabs_long E.1.1 E.1.2.1 (by rw [E.1.2.2.1, L.1]) E.1.2.2.2.1 hl hs hi hc (Nat.le_of_ble_eq_true hdp) (by rw [q_sum_eq]; exact Nat.le_of_ble_eq_true hw) (Nat.le_refl 0) (Nat.le_refl 0) hd ?_
  have k' := kk p l e s m args below meth c D cs ad H locs la Qf E L ⟨(by have := O.1; unfold q_ok q_i64 at *; dsimp only at *; split <;> omega), O.2⟩
  have e0 : (if 0 < Int64.ofInt x then Int64.ofInt x else -Int64.ofInt x) = Int64.ofInt (if 0 ≤ x then x else -x) := by
    have h0 : Int64.ofInt 0 = 0 := rfl
    have h1 := q_lt64 (q_i64_32 q_0) O.1
    rw [h0] at h1
    by_cases h : 0 < x
    · rw [if_pos (h1.mpr h), if_pos (by omega)]
    · rw [if_neg (fun z => h (h1.mp z)), ← Int64.ofInt_neg]
      congr 1
      split <;> omega
  rw [e0]
  exact k'
theorem q_mabsI {M : q_M} {sh : q_H} {pc n : Nat} {ls : List (Option q_V)} {st : List q_V} {σ : q_S} {Q : Option q_V → q_S → Prop} {idx : Nat} {x : Int} (hd : decode (q_cc M) pc = .ok (.invokestatic idx, 3)) (hn : pc + 3 = n) (hlk : Cond.methodLink (q_own M) idx yJ9_abs_0f7a4 ∈ q_words) (hdp : Nat.ble 1 (q_dp M) = true) (hw : Nat.ble (q_sum st + 13) (64 * q_dp M) = true) (hx : -2147483648 < x) (kk : q_WP M sh n ls (.inl (if 0 ≤ x then x else -x) :: st) σ Q) : q_WP M sh pc ls (.inl x :: st) σ Q := by
  subst hn
  intro p l e s m args below meth c D cs ad H locs la Qf E L O
  have hc := q_hw E.1.2.2.2.2.1 vJ9_abs_0f7a4.1.1
  have hi := q_hw E.1.2.2.2.2.1 vJ9_abs_0f7a4.1.2.1
  have hs := q_hw E.1.2.2.2.2.1 vJ9_abs_0f7a4.2
  have hl := q_hw E.1.2.2.2.2.1 hlk
  refine va_mabs E.1.1 E.1.2.1 (by rw [E.1.2.2.1, L.1]) E.1.2.2.2.1 hl hs hi hc (Nat.le_of_ble_eq_true hdp) (by rw [q_sum_eq]; exact Nat.le_of_ble_eq_true hw) (Nat.le_refl 0) (Nat.le_refl 0) hd ?_
  have k' := kk p l e s m args below meth c D cs ad H locs la Qf E L ⟨(by have := O.1; unfold q_ok q_i32 at *; dsimp only at *; split <;> omega), O.2⟩
  have e0 : (if 0 ≤ Int32.ofInt x then Int32.ofInt x else -Int32.ofInt x) = Int32.ofInt (if 0 ≤ x then x else -x) := by
    have h0 : Int32.ofInt 0 = 0 := rfl
    have h1 := q_le q_0 O.1
    rw [h0] at h1
    by_cases h : 0 ≤ x
    · rw [if_pos (h1.mpr h), if_pos h]
    · rw [if_neg (fun z => h (h1.mp z)), ← Int32.ofInt_neg, if_neg h]
  rw [show (0 : Int32) - Int32.ofInt x = -Int32.ofInt x from Int32.zero_sub _, e0]
  exact k'
theorem q_mmaxL {M : q_M} {sh : q_H} {pc n : Nat} {ls : List (Option q_V)} {st : List q_V} {σ : q_S} {Q : Option q_V → q_S → Prop} {idx : Nat} {x y : Int} (hd : decode (q_cc M) pc = .ok (.invokestatic idx, 3)) (hn : pc + 3 = n) (hlk : Cond.methodLink (q_own M) idx yJ9_max_f86c9 ∈ q_words) (hdp : Nat.ble 1 (q_dp M) = true) (hw : Nat.ble (q_sum st + 15) (64 * q_dp M) = true) (kk : q_WP M sh n ls (.inr (.inl (if y < x then x else y)) :: st) σ Q) : q_WP M sh pc ls (.inr (.inl y) :: .inr (.inl x) :: st) σ Q := by
  subst hn
  intro p l e s m args below meth c D cs ad H locs la Qf E L O
  have hc := q_hw E.1.2.2.2.2.1 vJ9_max_f86c9.1.1
  have hi := q_hw E.1.2.2.2.2.1 vJ9_max_f86c9.1.2.1
  have hs := q_hw E.1.2.2.2.2.1 vJ9_max_f86c9.2
  have hl := q_hw E.1.2.2.2.2.1 hlk
  refine va_mmax_long E.1.1 E.1.2.1 (by rw [E.1.2.2.1, L.1]) E.1.2.2.2.1 hl hs hi hc (Nat.le_of_ble_eq_true hdp) (by rw [q_sum_eq]; exact Nat.le_of_ble_eq_true hw) (Nat.le_refl 0) (Nat.le_refl 0) hd ?_
  have k' := kk p l e s m args below meth c D cs ad H locs la Qf E L ⟨(by have := O.1; have := O.2.1; split <;> assumption), O.2.2⟩
  have h1 := q_lt64 O.1 O.2.1
  have e0 : (if Int64.ofInt y < Int64.ofInt x then Int64.ofInt x else Int64.ofInt y) = Int64.ofInt (if y < x then x else y) := by
    by_cases h : y < x
    · rw [if_pos (h1.mpr h), if_pos h]
    · rw [if_neg (fun z => h (h1.mp z)), if_neg h]
  rw [e0]
  exact k'
theorem q_mminI {M : q_M} {sh : q_H} {pc n : Nat} {ls : List (Option q_V)} {st : List q_V} {σ : q_S} {Q : Option q_V → q_S → Prop} {idx : Nat} {x y : Int} (hd : decode (q_cc M) pc = .ok (.invokestatic idx, 3)) (hn : pc + 3 = n) (hlk : Cond.methodLink (q_own M) idx yJ9_min_7cf53 ∈ q_words) (hdp : Nat.ble 1 (q_dp M) = true) (hw : Nat.ble (q_sum st + 13) (64 * q_dp M) = true) (kk : q_WP M sh n ls (.inl (if y < x then y else x) :: st) σ Q) : q_WP M sh pc ls (.inl y :: .inl x :: st) σ Q := by
  subst hn
  intro p l e s m args below meth c D cs ad H locs la Qf E L O
  have hc := q_hw E.1.2.2.2.2.1 vJ9_min_7cf53.1.1
  have hi := q_hw E.1.2.2.2.2.1 vJ9_min_7cf53.1.2.1
  have hs := q_hw E.1.2.2.2.2.1 vJ9_min_7cf53.2
  have hl := q_hw E.1.2.2.2.2.1 hlk
  refine va_mmin E.1.1 E.1.2.1 (by rw [E.1.2.2.1, L.1]) E.1.2.2.2.1 hl hs hi hc (Nat.le_of_ble_eq_true hdp) (by rw [q_sum_eq]; exact Nat.le_of_ble_eq_true hw) (Nat.le_refl 0) (Nat.le_refl 0) hd ?_
  have k' := kk p l e s m args below meth c D cs ad H locs la Qf E L ⟨(by have := O.1; have := O.2.1; split <;> assumption), O.2.2⟩
  have h1 := q_lt O.1 O.2.1
  have e0 : (if Int32.ofInt y < Int32.ofInt x then Int32.ofInt y else Int32.ofInt x) = Int32.ofInt (if y < x then y else x) := by
    by_cases h : y < x
    · rw [if_pos (h1.mpr h), if_pos h]
    · rw [if_neg (fun z => h (h1.mp z)), if_neg h]
  rw [e0]
  exact k'
theorem bd_abs {x N : Int} (h : q_bd x N) : q_bd (if 0 ≤ x then x else -x) N := by
  unfold q_bd at *
  split <;> omega
theorem bd_g {x N : Int} (h : q_bd x N) (hN : N ≤ 9223372036854775807) : -9223372036854775808 < x := by
  unfold q_bd at h
  omega
