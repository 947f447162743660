/-- the tape's world: the place, the numbers read -/
def tp (σ : q_S) (pl : Int) (rd : Int → Int) : q_S := q_row (q_up σ 91 2 pl) 93 rd
theorem tp_pl {σ : q_S} {pl : Int} {rd : Int → Int} : tp σ pl rd 91 2 = pl := by unfold tp; rw [q_row_o (by decide), q_up_s]
theorem tp_rd {σ : q_S} {pl : Int} {rd : Int → Int} : tp σ pl rd 93 = rd := q_row_s
theorem tp_o {σ : q_S} {pl : Int} {rd : Int → Int} {c x : Int} (h : c ≠ 93 ∧ ¬ (c = 91 ∧ x = 2)) : tp σ pl rd c x = σ c x := by unfold tp; rw [q_row_o h.1, q_up_n h.2]
theorem tp_setpl {σ : q_S} {pl v : Int} {rd : Int → Int} : q_up (tp σ pl rd) 91 2 v = tp σ v rd := by
  funext c x
  unfold tp q_row q_up
  by_cases h : c = 91
  · subst h
    by_cases h2 : x = 2 <;> simp [h2]
  · simp [h]
theorem tp_setrd {σ : q_S} {pl i v : Int} {rd : Int → Int} : q_up (tp σ pl rd) 93 i v = tp σ pl (fun j => if j = i then v else rd j) := q_row_up
def ud (rd : Int → Int) (i v : Int) : Int → Int := fun j => if j = i then v else rd j
theorem ud_ud {rd : Int → Int} {i v w : Int} : ud (ud rd i v) i w = ud rd i w := by
  funext j
  unfold ud
  by_cases h : j = i <;> simp [h]
theorem ud_s {rd : Int → Int} {i v : Int} : ud rd i v i = v := if_pos rfl
theorem tp_ud {σ : q_S} {pl i v : Int} {rd : Int → Int} : q_up (tp σ pl rd) 93 i v = tp σ pl (ud rd i v) := tp_setrd
/-- the text: 0 behind its end -/
def tT (σ : q_S) : Int → Int := fun k => if k < σ 91 1 then σ 92 k else 0
abbrev fig (T : Int → Int) (p : Int) : Prop := 48 ≤ T p ∧ T p ≤ 57
def pNum (T : Int → Int) (p : Int) : Int ⊕ (Int × Int) :=
  if T p = 45 then (if fig T (p + 1) then (if fig T (p + 1 + 1) then .inr (-1 * (10 * (T (p + 1) - 48) + (T (p + 1 + 1) - 48)), p + 1 + 1 + 1) else .inr (-1 * (T (p + 1) - 48), p + 1 + 1)) else .inl (p + 1))
  else (if fig T p then (if fig T (p + 1) then .inr (1 * (10 * (T p - 48) + (T (p + 1) - 48)), p + 1 + 1) else .inr (1 * (T p - 48), p + 1)) else .inl p)
def pNums (T : Int → Int) : Nat → Int → Int → (Int → Int) → Int ⊕ ((Int → Int) × Int)
  | 0, _, p, rd => .inr (rd, p)
  | n + 1, i, p, rd =>
    if i = 0 then (match pNum T p with
      | .inl q => .inl q
      | .inr (x, q) => pNums T n (i + 1) q (ud rd i x))
    else if T p = 44 then (match pNum T (p + 1) with
      | .inl q => .inl q
      | .inr (x, q) => pNums T n (i + 1) q (ud rd i x))
    else .inl p
/-- those out of a vertex: at most three, the first must be there -/
def pOuts (T : Int → Int) : Nat → Int → Int → Int → Int ⊕ (Int × Int)
  | 0, _, p, os => .inr (os, p)
  | n + 1, i, p, os => if T p = 62 then (if fig T (p + 1) then pOuts T n (i + 1) (p + 1 + 1) (q_or os (q_shl 1 (T (p + 1) - 48))) else .inl (p + 1)) else if i = 0 then .inl p else .inr (os, p)
def pTies (T : Int → Int) (p : Int) (rd : Int → Int) : Int ⊕ ((Int → Int) × Int) :=
  if T p = 60 then (if fig T (p + 1) then (match pOuts T 3 0 (p + 1 + 1) 0 with
      | .inl q => .inl q
      | .inr (os, q) => .inr (ud (ud rd 2 (T (p + 1) - 48)) 3 os, q)) else .inl (p + 1))
  else (match pOuts T 3 0 p 0 with
      | .inl q => .inl q
      | .inr (os, q) => .inr (ud (ud rd 2 (-1)) 3 os, q))
theorem tT_lt {σ : q_S} {p : Int} (h : tT σ p ≠ 0) : p < σ 91 1 := by
  unfold tT at h
  by_cases h2 : p < σ 91 1
  · exact h2
  · rw [if_neg h2] at h
    exact absurd rfl h
theorem i2b_id {x : Int} (h : -128 ≤ x ∧ x < 128) : q_i2b x = x := by
  unfold q_i2b
  have e : (Int32.ofInt x).toInt = x := q_t32 ⟨by omega, by omega⟩
  rw [Int8.toInt_toInt32, Int32.toInt_toInt8, e]
  exact Int.bmod_eq_of_le (by omega) (by omega)
