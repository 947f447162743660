/-! A logic for the methods of the two systems: values are whole numbers, a world is a table of cells with a function of two whole numbers; below each rule stands the kit's row. -/
abbrev q_V : Type := Int ⊕ (Int ⊕ Int)
abbrev q_S : Type := Int → Int → Int
abbrev q_C : Type := (Nat × List (Nat ⊕ Int)) ⊕ ((Nat × Nat) ⊕ (Nat × Nat × (Int → Int)))
abbrev q_M : Type := String × MethodName × ByteArray × Nat × Option FieldType × Nat
abbrev q_own (M : q_M) : String := M.1
abbrev q_nm (M : q_M) : MethodName := M.2.1
abbrev q_cc (M : q_M) : ByteArray := M.2.2.1
abbrev q_nL (M : q_M) : Nat := M.2.2.2.1
abbrev q_rt (M : q_M) : Option FieldType := M.2.2.2.2.1
abbrev q_dp (M : q_M) : Nat := M.2.2.2.2.2
def q_w (x : Int) : Int := Int.bmod x 4294967296
def q_W (x : Int) : Int := Int.bmod x 18446744073709551616
def q_i32 (x : Int) : Prop := -2147483648 ≤ x ∧ x < 2147483648
def q_i64 (x : Int) : Prop := -9223372036854775808 ≤ x ∧ x < 9223372036854775808
def q_ok (v : q_V) : Prop := match v with
  | .inl x => q_i32 x
  | .inr (.inl x) => q_i64 x
  | .inr (.inr _) => True
def q_oks : List q_V → Prop
  | [] => True
  | v :: r => q_ok v ∧ q_oks r
def q_cv (ad : Int → Nat) (v : q_V) : Value := match v with
  | .inl x => .int (Int32.ofInt x)
  | .inr (.inl x) => .long (Int64.ofInt x)
  | .inr (.inr c) => .ref (ad c)
/-- what a place of a kind may hold: 0 int, 1 long, 2 byte, 3 char, 4 boolean -/
def q_tr (t : Nat) (x : Int) : Prop := match t with
  | 0 => q_i32 x
  | 1 => q_i64 x
  | 2 => -128 ≤ x ∧ x < 128
  | 3 => 0 ≤ x ∧ x < 65536
  | _ => 0 ≤ x ∧ x < 2
def q_rg (C : q_C) (f : Int → Int) : Prop := match C with
  | .inl (_, fs) => ∀ (k t : Nat), fs[k]? = some (.inl t) → q_tr t (f k)
  | .inr (.inl (t, _)) => ∀ k : Int, q_tr t (f k)
  | .inr (.inr _) => True
def q_flds (ad : Int → Nat) (f : Int → Int) : Nat → List (Nat ⊕ Int) → List Value
  | _, [] => []
  | k, .inl t :: r => (if t = 1 then .long (Int64.ofInt (f k)) else .int (Int32.ofInt (f k))) :: q_flds ad f (k + 1) r
  | k, .inr c :: r => .ref (ad c) :: q_flds ad f (k + 1) r
def q_cell (ad : Int → Nat) (cs : Nat → ClassId) (C : q_C) (f : Int → Int) : va_E := match C with
  | .inl (ci, fs) => .inr (ci, q_flds ad f 0 fs)
  | .inr (.inl (t, n)) => .inl (cs t, n, if t = 1 then .inr (.inl (fun j => Int64.ofInt (f j))) else .inl (fun j => Int32.ofInt (f j)))
  | .inr (.inr (t, n, g)) => .inl (cs t, n, .inr (.inr (.inr (.inr (fun j => some (ad (g j)))))))
abbrev q_H : Type := Nat × (Int → q_C)
def q_rng (sh : q_H) (σ : q_S) : Prop := ∀ c : Nat, c < sh.1 → q_rg (sh.2 c) (σ c)
def q_wld (ad : Int → Nat) (cs : Nat → ClassId) (sh : q_H) (σ : q_S) : va_W := (List.range sh.1).map (fun c : Nat => (ad c, q_cell ad cs (sh.2 c) (σ c)))
def q_up (σ : q_S) (c x v : Int) : q_S := fun c' x' => if c' = c ∧ x' = x then v else σ c' x'
def q_tys (cs : Nat → ClassId) : List (ClassId × FieldType) := [(cs 0, .int), (cs 1, .long), (cs 2, .byte), (cs 3, .char), (cs 4, .object RX0), (cs 5, .object RX3), (cs 6, .object RX5)]
def q_A (ad : Int → Nat) (n : Nat) : Nat → Prop := fun q => ∃ c : Nat, c < n ∧ q = ad c
def q_inj (ad : Int → Nat) (n : Nat) : Prop := ∀ c c' : Nat, c < n → c' < n → ad c = ad c' → c = c'
def q_words : List Cond := lw_tbl.filter goodWord
def q_isN (w : Cond) : Bool := match w with
  | .fieldLinkNest .. => true
  | .methodLinkNest .. => true
  | _ => false
def q_nw : List Cond := lw_tbl.filter q_isN
def q_N (U : State) : Prop := ∀ w ∈ q_nw, va_Nw w U
def q_ws (M : q_M) : List Cond := .code (q_nm M) (q_cc M) (q_nL M) (q_rt M) :: q_words
def q_num : List Int := [1, 1, 0, 0, 94, 0, 1, 0, 0, 94, -1, 0, 1, 0, 1, 0, 0, 1, 0, 0, 1, 0, 0, 0, 14, -1, 0, 0, 0, 14, 0, 0, 0, 0, 13, 1, 0, 0, 1, 49, -1, 0, 0, -1, 49, 0, 0, 0, 1, 50, 0, 1, 0, -1, 112, -1, 1, 0, -1, 120]
def q_let : List Int := [112, 110, 101, 118, 97, 98, 99, 107, 109, 111, 108, 115]
/-- what nobody writes: the row NUMBERS (cell 1000), the text of the letters (1001) and its bytes (1002) -/
def q_St (ad : Int → Nat) (A : Nat → Prop) (U : State) (H : Heap) : Prop :=
  va_Z "TrackChamber" "NUMBERS" "[I" (.ref (ad 1000)) A U H ∧ va_T .int (ad 1000) 60 (fun j => .int (Int32.ofInt (q_num.getD j 0))) A U H ∧
  va_O "java/lang/String" (ad 1001) A U H ∧ va_OF "java/lang/String" "coder" "B" (.int 0) (ad 1001) A U H ∧ va_OF "java/lang/String" "value" "[B" (.ref (ad 1002)) (ad 1001) A U H ∧
  va_T .byte (ad 1002) 12 (fun j => .int (Int32.ofInt (q_let.getD j 0))) A U H ∧ va_Z "java/lang/String" "COMPACT_STRINGS" "Z" (.int 1) A U H ∧
  vk_R "TrackChamber$Tape" 60 "pnevabckmols" (ad 1001) U ∧ vk_R "TrackChamber" 410 "pnevabckmols" (ad 1001) U ∧ va_Zq "jdk/internal/util/Preconditions" "SIOOBE_FORMATTER" "Ljava/util/function/BiFunction;" A U H
theorem q_St.go {ad : Int → Nat} {A B : Nat → Prop} {s U : State} {H H1 : Heap} (hvm : s.vm.Alike U.vm) (hr : ∀ (own : String) (k : Nat) (tx : String) (a : Nat), vk_R own k tx a s → vk_R own k tx a U) (hk : ∀ q : Nat, q < H.size → ¬ A q → H1[q]? = H[q]?) (hAB : ∀ q, B q → A q) (h : q_St ad A s H) : q_St ad B U H1 := by
  obtain ⟨h1, h2, h3, h4, h5, h6, h7, h8, h9, h10⟩ := h
  exact ⟨((h1.kept hk).narrow hAB).moved hvm, ((h2.kept hk).narrow hAB).moved hvm, ((h3.kept hk).narrow hAB).moved hvm, ((h4.kept hk).narrow hAB).moved hvm, ((h5.kept hk).narrow hAB).moved hvm, ((h6.kept hk).narrow hAB).moved hvm, ((h7.kept hk).narrow hAB).moved hvm, hr _ _ _ _ h8, hr _ _ _ _ h9, ((h10.kept hk).narrow hAB).moved hvm⟩
theorem q_N.go {s U : State} (hW : s.WarmedH U.vm) (h : q_N s) : q_N U := by
  intro w hw
  have h0 := h w hw
  have hn := (List.mem_filter.mp hw).2
  cases w <;> first | exact va_Nw.warmF hW h0 | exact va_Nw.warmM hW h0 | cases hn
/-- numbers -/
theorem q_t32 {x : Int} (h : q_i32 x) : (Int32.ofInt x).toInt = x := Int32.toInt_ofInt_of_le h.1 h.2
theorem q_t64 {x : Int} (h : q_i64 x) : (Int64.ofInt x).toInt = x := Int64.toInt_ofInt_of_le h.1 h.2
theorem q_w_in (x : Int) : q_i32 (q_w x) := by
  have h1 := Int.le_bmod (x := x) (m := 4294967296) (by decide)
  have h2 := Int.bmod_lt (x := x) (m := 4294967296) (by decide)
  unfold q_w q_i32
  omega
theorem q_W_in (x : Int) : q_i64 (q_W x) := by
  have h1 := Int.le_bmod (x := x) (m := 18446744073709551616) (by decide)
  have h2 := Int.bmod_lt (x := x) (m := 18446744073709551616) (by decide)
  unfold q_W q_i64
  omega
theorem q_w_id {x : Int} (h : q_i32 x) : q_w x = x := by
  have := q_t32 h
  rw [Int32.toInt_ofInt] at this
  exact this
theorem q_W_id {x : Int} (h : q_i64 x) : q_W x = x := by
  have := q_t64 h
  rw [Int64.toInt_ofInt] at this
  exact this
theorem q_ow (x : Int) : Int32.ofInt (q_w x) = Int32.ofInt x := by
  apply Int32.toInt_inj.mp
  rw [q_t32 (q_w_in x), Int32.toInt_ofInt]
  rfl
theorem q_oW (x : Int) : Int64.ofInt (q_W x) = Int64.ofInt x := by
  apply Int64.toInt_inj.mp
  rw [q_t64 (q_W_in x), Int64.toInt_ofInt]
  rfl
theorem q_in32 (x : Int32) : q_i32 x.toInt := ⟨Int32.le_toInt x, Int32.toInt_lt x⟩
theorem q_in64 (x : Int64) : q_i64 x.toInt := ⟨Int64.le_toInt x, Int64.toInt_lt x⟩
theorem q_lt {x y : Int} (hx : q_i32 x) (hy : q_i32 y) : Int32.ofInt x < Int32.ofInt y ↔ x < y := by rw [Int32.lt_iff_toInt_lt, q_t32 hx, q_t32 hy]
theorem q_le {x y : Int} (hx : q_i32 x) (hy : q_i32 y) : Int32.ofInt x ≤ Int32.ofInt y ↔ x ≤ y := by rw [Int32.le_iff_toInt_le, q_t32 hx, q_t32 hy]
theorem q_eq {x y : Int} (hx : q_i32 x) (hy : q_i32 y) : Int32.ofInt x = Int32.ofInt y ↔ x = y := by rw [← Int32.toInt_inj, q_t32 hx, q_t32 hy]
theorem q_eq64 {x y : Int} (hx : q_i64 x) (hy : q_i64 y) : Int64.ofInt x = Int64.ofInt y ↔ x = y := by rw [← Int64.toInt_inj, q_t64 hx, q_t64 hy]
theorem q_lt64 {x y : Int} (hx : q_i64 x) (hy : q_i64 y) : Int64.ofInt x < Int64.ofInt y ↔ x < y := by rw [Int64.lt_iff_toInt_lt, q_t64 hx, q_t64 hy]
theorem q_0 : q_i32 0 := ⟨by decide, by decide⟩
theorem q_idx {x : Int} {n : Nat} (hx : q_i32 x) (h : 0 ≤ x ∧ x < n) : vp_in (Int32.ofInt x) n ∧ ((Int32.ofInt x).toNatClampNeg : Int) = x := by
  have e : (Int32.ofInt x).toInt = x := q_t32 hx
  have h2 : ((Int32.ofInt x).toNatClampNeg : Int) = x := by
    have : (Int32.ofInt x).toNatClampNeg = x.toNat := Int32.toNatClampNeg_ofInt_of_le hx.1 hx.2
    rw [this]
    omega
  refine ⟨?_, h2⟩
  rw [vp_in_iff, e]
  exact h
def q_and (x y : Int) : Int := (Int32.ofInt x &&& Int32.ofInt y).toInt
def q_or (x y : Int) : Int := (Int32.ofInt x ||| Int32.ofInt y).toInt
def q_shl (x y : Int) : Int := (Int32.ofInt x <<< (Int32.ofInt y &&& 31)).toInt
def q_shr (x y : Int) : Int := (Int32.ofInt x >>> (Int32.ofInt y &&& 31)).toInt
def q_Land (x y : Int) : Int := (Int64.ofInt x &&& Int64.ofInt y).toInt
def q_Lor (x y : Int) : Int := (Int64.ofInt x ||| Int64.ofInt y).toInt
def q_Lshl (x y : Int) : Int := (Int64.ofInt x <<< ((Int32.ofInt y).toInt64 &&& 63)).toInt
def q_i2b (x : Int) : Int := ((Int32.ofInt x).toInt8.toInt32).toInt
def q_i2c (x : Int) : Int := (((Int32.ofInt x).toUInt32 % 65536).toInt32).toInt
def q_cmp (x y : Int) : Int := if x < y then -1 else if x = y then 0 else 1
def q_abs (x : Int) : Int := q_W (if 0 < x then x else -x)
theorem q_i64_32 {x : Int} (h : q_i32 x) : q_i64 x := ⟨Int.le_trans (by decide) h.1, Int.lt_of_lt_of_le h.2 (by decide)⟩
theorem q_l32 {x : Int} (h : q_i32 x) : (Int32.ofInt x).toInt64 = Int64.ofInt x := by
  apply Int64.toInt_inj.mp
  rw [Int32.toInt_toInt64, q_t32 h, q_t64 (q_i64_32 h)]
theorem q_tdiv_lt {x y M : Int} (h1 : -M ≤ x) (h2 : x ≤ M) : -M ≤ x.tdiv y ∧ x.tdiv y ≤ M := by
  have h : (x.tdiv y).natAbs = x.natAbs / y.natAbs := Int.natAbs_tdiv x y
  have h3 : x.natAbs / y.natAbs ≤ x.natAbs := Nat.div_le_self _ _
  omega
theorem q_tmod_lt {x y M : Int} (h1 : -M ≤ x) (h2 : x ≤ M) : -M ≤ x.tmod y ∧ x.tmod y ≤ M := by
  have h : (x.tmod y).natAbs = x.natAbs % y.natAbs := Int.natAbs_tmod x y
  have h3 : x.natAbs % y.natAbs ≤ x.natAbs := Nat.mod_le _ _
  omega
theorem q_div32 {x y : Int} (hx : q_i32 x) (hy : q_i32 y) : Int32.ofInt x / Int32.ofInt y = Int32.ofInt (q_w (x.tdiv y)) := by
  apply Int32.toInt_inj.mp
  rw [Int32.toInt_div, q_t32 hx, q_t32 hy, q_t32 (q_w_in _)]
  rfl
theorem q_div64 {x y : Int} (hx : q_i64 x) (hy : q_i64 y) : Int64.ofInt x / Int64.ofInt y = Int64.ofInt (q_W (x.tdiv y)) := by
  apply Int64.toInt_inj.mp
  rw [Int64.toInt_div, q_t64 hx, q_t64 hy, q_t64 (q_W_in _)]
  rfl
theorem q_tmod_in {x y : Int} (hx : q_i32 x) : q_i32 (x.tmod y) := by
  unfold q_i32 at *
  have h : (x.tmod y).natAbs = x.natAbs % y.natAbs := Int.natAbs_tmod x y
  have h3 : x.natAbs % y.natAbs ≤ x.natAbs := Nat.mod_le _ _
  by_cases h0 : 0 ≤ x
  · have := Int.tmod_nonneg y h0
    omega
  · have h4 := Int.tmod_nonneg y (show 0 ≤ -x by omega)
    rw [Int.neg_tmod] at h4
    omega
theorem q_tmod_in64 {x y : Int} (hx : q_i64 x) : q_i64 (x.tmod y) := by
  unfold q_i64 at *
  have h : (x.tmod y).natAbs = x.natAbs % y.natAbs := Int.natAbs_tmod x y
  have h3 : x.natAbs % y.natAbs ≤ x.natAbs := Nat.mod_le _ _
  by_cases h0 : 0 ≤ x
  · have := Int.tmod_nonneg y h0
    omega
  · have h4 := Int.tmod_nonneg y (show 0 ≤ -x by omega)
    rw [Int.neg_tmod] at h4
    omega
theorem q_rem32 {x y : Int} (hx : q_i32 x) (hy : q_i32 y) : Int32.ofInt x - Int32.ofInt x / Int32.ofInt y * Int32.ofInt y = Int32.ofInt (x.tmod y) := by
  rw [q_div32 hx hy, q_ow, ← Int32.ofInt_mul, ← Int32.ofInt_sub]
  congr 1
  have := Int.tmod_add_mul_tdiv x y
  have h2 := Int.mul_comm (x.tdiv y) y
  omega
theorem q_rem64 {x y : Int} (hx : q_i64 x) (hy : q_i64 y) : Int64.ofInt x - Int64.ofInt x / Int64.ofInt y * Int64.ofInt y = Int64.ofInt (x.tmod y) := by
  rw [q_div64 hx hy, q_oW, ← Int64.ofInt_mul, ← Int64.ofInt_sub]
  congr 1
  have := Int.tmod_add_mul_tdiv x y
  have h2 := Int.mul_comm (x.tdiv y) y
  omega
theorem q_lgc {x y : Int} (hx : q_i64 x) (hy : q_i64 y) : lg_cmp (Int64.ofInt x) (Int64.ofInt y) = Int32.ofInt (q_cmp x y) := by
  unfold lg_cmp q_cmp
  by_cases h1 : x < y
  · have h2 : ¬ y < x := by omega
    have h3 : ¬ x = y := by omega
    simp only [gt_iff_lt, q_lt64 hx hy, q_lt64 hy hx, q_eq64 hx hy, h1, h2, h3, if_true, if_false]
    rfl
  · by_cases h3 : x = y
    · have h2 : ¬ y < x := by omega
      simp only [gt_iff_lt, q_lt64 hx hy, q_lt64 hy hx, q_eq64 hx hy, h1, h2, h3, if_true, if_false]
      simp
    · have h2 : y < x := by omega
      simp only [gt_iff_lt, q_lt64 hx hy, q_lt64 hy hx, q_eq64 hx hy, h1, h2, h3, if_true, if_false]
      rfl
theorem q_cmp_in (x y : Int) : q_i32 (q_cmp x y) := by
  unfold q_cmp q_i32
  split
  · decide
  · split <;> decide
