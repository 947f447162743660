/-- bounds of whole numbers -/
def q_bd (x N : Int) : Prop := -N ≤ x ∧ x ≤ N
theorem bd_c (N x : Int) (h : -N ≤ x ∧ x ≤ N) : q_bd x N := h
theorem bd_mul {x y A B C : Int} (hx : q_bd x A) (hy : q_bd y B) (h : A * B ≤ C) : q_bd (x * y) C := by
  unfold q_bd at *
  have h1 : x.natAbs ≤ A.toNat := by omega
  have h2 : y.natAbs ≤ B.toNat := by omega
  have h3 := Nat.mul_le_mul h1 h2
  have h4 : ((A.toNat * B.toNat : Nat) : Int) = A * B := by
    rw [Int.natCast_mul, Int.toNat_of_nonneg (by omega), Int.toNat_of_nonneg (by omega)]
  have h5 : (x * y).natAbs = x.natAbs * y.natAbs := Int.natAbs_mul x y
  generalize x * y = z at *
  generalize A * B = w at *
  omega
theorem bd_add {x y A B C : Int} (hx : q_bd x A) (hy : q_bd y B) (h : A + B ≤ C) : q_bd (x + y) C := by
  unfold q_bd at *
  omega
theorem bd_sub {x y A B C : Int} (hx : q_bd x A) (hy : q_bd y B) (h : A + B ≤ C) : q_bd (x - y) C := by
  unfold q_bd at *
  omega
theorem bd_neg {x A : Int} (hx : q_bd x A) : q_bd (-x) A := by
  unfold q_bd at *
  omega
theorem bd_64 {x N : Int} (h : q_bd x N) (hN : N ≤ 9223372036854775807) : q_i64 x := by
  unfold q_bd at h
  unfold q_i64
  omega
theorem bd_32 {x N : Int} (h : q_bd x N) (hN : N ≤ 2147483647) : -2147483648 ≤ x ∧ x < 2147483648 := by
  unfold q_bd at h
  omega
theorem bd_le {x N N' : Int} (h : q_bd x N) (hN : N ≤ N') : q_bd x N' := by
  unfold q_bd at *
  omega
def q_Lshr (x y : Int) : Int := (Int64.ofInt x >>> ((Int32.ofInt y).toInt64 &&& 63)).toInt
def q_Lushr (x y : Int) : Int := ((Int64.ofInt x).toUInt64 >>> ((Int32.ofInt y).toInt64.toUInt64 &&& Int64.toUInt64 63)).toInt64.toInt
def q_L2i (x : Int) : Int := ((Int64.ofInt x).toInt32).toInt
section Q9
variable {M : q_M} {sh : q_H} {pc n : Nat} {ls : List (Option q_V)} {st : List q_V} {σ : q_S} {Q : Option q_V → q_S → Prop}
theorem q_lshr {x y : Int} (hd : decode (q_cc M) pc = .ok (.lshr, 1)) (hn : pc + 1 = n) (k : q_WP M sh n ls (.inr (.inl (q_Lshr x y)) :: st) σ Q) : q_WP M sh pc ls (.inl y :: .inr (.inl x) :: st) σ Q := by
  subst hn
  intro p l e s m args below meth c D cs ad H locs la Qf E L O
  exact lv_lshr E.1.1 E.1.2.1 hd (Int64.ofInt_toInt _).symm (k p l e s m args below meth c D cs ad H locs la Qf E L ⟨q_in64 _, O.2.2⟩)
theorem q_lushr {x y : Int} (hd : decode (q_cc M) pc = .ok (.lushr, 1)) (hn : pc + 1 = n) (k : q_WP M sh n ls (.inr (.inl (q_Lushr x y)) :: st) σ Q) : q_WP M sh pc ls (.inl y :: .inr (.inl x) :: st) σ Q := by
  subst hn
  intro p l e s m args below meth c D cs ad H locs la Qf E L O
  exact lv_lushr E.1.1 E.1.2.1 hd (Int64.ofInt_toInt _).symm (k p l e s m args below meth c D cs ad H locs la Qf E L ⟨q_in64 _, O.2.2⟩)
theorem q_l2i {x : Int} (hd : decode (q_cc M) pc = .ok (.l2i, 1)) (hn : pc + 1 = n) (k : q_WP M sh n ls (.inl (q_L2i x) :: st) σ Q) : q_WP M sh pc ls (.inr (.inl x) :: st) σ Q := by
  subst hn
  intro p l e s m args below meth c D cs ad H locs la Qf E L O
  exact lv_l2i E.1.1 E.1.2.1 hd (Int32.ofInt_toInt _).symm (k p l e s m args below meth c D cs ad H locs la Qf E L ⟨q_in32 _, O.2⟩)
end Q9
def sgn (x : Int) : Int := if 0 < x then 1 else if x < 0 then -1 else 0
theorem sgn_ok {x : Int} (h : q_i64 x) : q_L2i (q_Lor (q_Lshr x 63) (q_Lushr (q_W (-x)) 63)) = sgn x := by
  have e1 : ((Int32.ofInt 63).toInt64 &&& 63) = 63 := by decide
  have e2 : ((Int32.ofInt 63).toInt64.toUInt64 &&& Int64.toUInt64 63) = 63 := by decide
  have hs : q_Lshr x 63 = if x < 0 then -1 else 0 := by
    unfold q_Lshr
    rw [e1]
    have : (Int64.ofInt x >>> 63).toInt = (Int64.ofInt x).toInt >>> 63 := by
      show ((Int64.ofInt x).toBitVec.sshiftRight ((63 : Int64).toBitVec.smod 64).toNat).toInt = _
      rw [show ((63 : Int64).toBitVec.smod 64).toNat = 63 from by decide, BitVec.toInt_sshiftRight]
      rfl
    rw [this, q_t64 h, Int.shiftRight_eq_div_pow]
    unfold q_i64 at h
    split <;> omega
  have hu : ∀ y : Int, q_i64 y → q_Lushr y 63 = if y < 0 then 1 else 0 := by
    intro y hy
    unfold q_Lushr
    rw [e2]
    have h0 : ((Int64.ofInt y).toUInt64 >>> 63).toNat = (Int64.ofInt y).toUInt64.toNat / 2 ^ 63 := by
      rw [UInt64.toNat_shiftRight, Nat.shiftRight_eq_div_pow]
      rfl
    have h1 : (Int64.ofInt y).toUInt64.toNat = (if y < 0 then y + 18446744073709551616 else y).toNat := by
      have : (Int64.ofInt y).toInt = y := q_t64 hy
      have h2 : (Int64.ofInt y).toInt = (Int64.ofInt y).toBitVec.toInt := rfl
      rw [h2, BitVec.toInt_eq_toNat_cond] at this
      have h3 : (Int64.ofInt y).toUInt64.toNat = (Int64.ofInt y).toBitVec.toNat := rfl
      rw [h3]
      have h4 := (Int64.ofInt y).toBitVec.isLt
      split at this <;> split <;> omega
    have h5 : ((Int64.ofInt y).toUInt64 >>> 63) = if y < 0 then 1 else 0 := by
      apply UInt64.toNat_inj.mp
      rw [h0, h1]
      unfold q_i64 at hy
      split
      · show _ = 1
        omega
      · show _ = 0
        omega
    rw [h5]
    split <;> rfl
  rw [hs, hu _ (q_W_in _)]
  unfold sgn
  unfold q_i64 at h
  by_cases h1 : 0 < x
  · have : q_W (-x) = -x := q_W_id ⟨by omega, by omega⟩
    rw [if_neg (by omega), this, if_pos (by omega), if_pos h1]
    rfl
  · rw [if_neg h1]
    by_cases h2 : x < 0
    · simp only [if_pos h2]
      split <;> rfl
    · have : x = 0 := by omega
      subst this
      rfl
def bcE (x : Int) : Int :=
  let a := q_w (x - q_and (q_ushr x 1) 1431655765)
  let b := q_w (q_and a 858993459 + q_and (q_ushr a 2) 858993459)
  let c := q_and (q_w (b + q_ushr b 4)) 252645135
  let d := q_w (c + q_ushr c 8)
  let e := q_w (d + q_ushr d 16)
  q_and e 63
/-- how many of the eight lowest bits are set -/
def popc (x : Int) : Int := x % 2 + x / 2 % 2 + x / 4 % 2 + x / 8 % 2 + x / 16 % 2 + x / 32 % 2 + x / 64 % 2 + x / 128 % 2
theorem bcE_ok {x : Int} (h : 0 ≤ x ∧ x < 256) : bcE x = popc x := by
  have h0 : ∀ k : Fin 256, bcE (k.val : Int) = popc (k.val : Int) := by decide +kernel
  have := h0 ⟨x.toNat, by omega⟩
  simpa [Int.toNat_of_nonneg h.1] using this
def bit (o t : Int) : Prop := q_and (q_shr o t) 1 = 1
theorem shl_1 {n : Int} (h : 0 ≤ n ∧ n ≤ 8) : q_shl 1 n = 2 ^ n.toNat ∧ q_shl 1 n ≤ 256 := by
  have : n = 0 ∨ n = 1 ∨ n = 2 ∨ n = 3 ∨ n = 4 ∨ n = 5 ∨ n = 6 ∨ n = 7 ∨ n = 8 := by omega
  rcases this with rfl | rfl | rfl | rfl | rfl | rfl | rfl | rfl | rfl <;> exact ⟨by decide, by decide⟩
/-- a bit of a small set -/
theorem bit_iff {o t : Int} (ho : 0 ≤ o ∧ o < 256) (ht : 0 ≤ t ∧ t < 8) : bit o t ↔ o / 2 ^ t.toNat % 2 = 1 := by
  have h0 : ∀ (k : Fin 256) (j : Fin 8), (q_and (q_shr (k.val : Int) (j.val : Int)) 1 = 1) = decide ((k.val : Int) / 2 ^ j.val % 2 = 1) := by decide +kernel
  have := h0 ⟨o.toNat, by omega⟩ ⟨t.toNat, by omega⟩
  simp only [Int.toNat_of_nonneg ho.1, Int.toNat_of_nonneg ht.1] at this
  unfold bit
  rw [this]
  simp
theorem and1_01 (x : Int) : q_and x 1 = 0 ∨ q_and x 1 = 1 := by
  unfold q_and
  have h : (Int32.ofInt x &&& Int32.ofInt 1) = 0 ∨ (Int32.ofInt x &&& Int32.ofInt 1) = 1 := by
    generalize Int32.ofInt x = y
    have e : Int32.ofInt 1 = 1 := rfl
    rw [e]
    have h2 := pk_and y (m := 1) 1 (by decide)
    rw [h2]
    have : y.toBitVec.toNat % 2 ^ 1 < 2 := Nat.mod_lt _ (by decide)
    rcases (by omega : y.toBitVec.toNat % 2 ^ 1 = 0 ∨ y.toBitVec.toNat % 2 ^ 1 = 1) with h | h <;> rw [h]
    · exact Or.inl rfl
    · exact Or.inr rfl
  rcases h with h | h <;> rw [h]
  · exact Or.inl rfl
  · exact Or.inr rfl
section QE
variable {M : q_M} {sh : q_H} {pc n : Nat} {ls : List (Option q_V)} {st : List q_V} {σ : q_S} {Q : Option q_V → q_S → Prop}
theorem q_getIE (v : Int) {x kI : Int} {idx ci k : Nat} {fs : List (Nat ⊕ Int)} {t : Nat} (ht : t ≠ 1) (hd : decode (q_cc M) pc = .ok (.getfield idx, 3)) (hn : pc + 3 = n) (hf : q_FL (q_own M) idx ci k) (hC : q_is sh x (.inl (ci, fs))) (hk : fs[k]? = some (.inl t)) (hkI : (k : Int) = kI) (hv : σ x kI = v) (kk : q_WP M sh n ls (.inl v :: st) σ Q) : q_WP M sh pc ls (.inr (.inr x) :: st) σ Q := q_getI ht hd hn hf hC hk hkI (by rw [hv]; exact kk)
theorem q_getJE (v : Int) {x kI : Int} {idx ci k : Nat} {fs : List (Nat ⊕ Int)} (hd : decode (q_cc M) pc = .ok (.getfield idx, 3)) (hn : pc + 3 = n) (hf : q_FL (q_own M) idx ci k) (hC : q_is sh x (.inl (ci, fs))) (hk : fs[k]? = some (.inl 1)) (hkI : (k : Int) = kI) (hv : σ x kI = v) (kk : q_WP M sh n ls (.inr (.inl v) :: st) σ Q) : q_WP M sh pc ls (.inr (.inr x) :: st) σ Q := q_getJ hd hn hf hC hk hkI (by rw [hv]; exact kk)
theorem q_ialoadE (v : Int) {x i : Int} {N : Nat} (hd : decode (q_cc M) pc = .ok (.iaload, 1)) (hn : pc + 1 = n) (hC : q_is sh x (.inr (.inl (0, N)))) (hi : 0 ≤ i ∧ i < (N : Int)) (hv : σ x i = v) (kk : q_WP M sh n ls (.inl v :: st) σ Q) : q_WP M sh pc ls (.inl i :: .inr (.inr x) :: st) σ Q := q_iaload hd hn hC hi (by rw [hv]; exact kk)
theorem q_baloadE (v : Int) {x i : Int} {N : Nat} (hd : decode (q_cc M) pc = .ok (.baload, 1)) (hn : pc + 1 = n) (hC : q_is sh x (.inr (.inl (2, N)))) (hi : 0 ≤ i ∧ i < (N : Int)) (hv : σ x i = v) (kk : q_WP M sh n ls (.inl v :: st) σ Q) : q_WP M sh pc ls (.inl i :: .inr (.inr x) :: st) σ Q := q_baload hd hn hC hi (by rw [hv]; exact kk)
theorem q_laloadE (v : Int) {x i : Int} {N : Nat} (hd : decode (q_cc M) pc = .ok (.laload, 1)) (hn : pc + 1 = n) (hC : q_is sh x (.inr (.inl (1, N)))) (hi : 0 ≤ i ∧ i < (N : Int)) (hv : σ x i = v) (kk : q_WP M sh n ls (.inr (.inl v) :: st) σ Q) : q_WP M sh pc ls (.inl i :: .inr (.inr x) :: st) σ Q := q_laload hd hn hC hi (by rw [hv]; exact kk)
theorem q_topI {v : Int} (w : Int) (h : v = w) (kk : q_WP M sh pc ls (.inl w :: st) σ Q) : q_WP M sh pc ls (.inl v :: st) σ Q := by rw [h]; exact kk
theorem q_topJ {v : Int} (w : Int) (h : v = w) (kk : q_WP M sh pc ls (.inr (.inl w) :: st) σ Q) : q_WP M sh pc ls (.inr (.inl v) :: st) σ Q := by rw [h]; exact kk
end QE
