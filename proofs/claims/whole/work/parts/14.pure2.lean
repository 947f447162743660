def lowE (a b k : Int) : Int := q_W ((if k = 0 then a else b).tdiv (if euc 128 (if 0 ≤ a then a else -a) b < 1 then 1 else euc 128 (if 0 ≤ a then a else -a) b))
/-- one cell's row replaced -/
def q_row (σ : q_S) (c : Int) (g : Int → Int) : q_S := fun c' x' => if c' = c then g x' else σ c' x'
theorem q_row_up {σ : q_S} {c x v : Int} {g : Int → Int} : q_up (q_row σ c g) c x v = q_row σ c (fun j => if j = x then v else g j) := by
  funext c' x'
  unfold q_up q_row
  by_cases h : c' = c <;> by_cases h2 : x' = x <;> simp [h, h2]
theorem q_row_0 {σ : q_S} {c : Int} : q_row σ c (σ c) = σ := by
  funext c' x'
  unfold q_row
  split
  · rename_i h; rw [h]
  · rfl
theorem q_row_1 {σ : q_S} {c x v : Int} : q_up σ c x v = q_row σ c (fun j => if j = x then v else σ c j) := by
  have := q_row_up (σ := σ) (c := c) (x := x) (v := v) (g := σ c)
  rwa [q_row_0] at this
theorem q_row_o {σ : q_S} {c c' : Int} {g : Int → Int} (h : c' ≠ c) : q_row σ c g c' = σ c' := by
  funext x'
  simp [q_row, h]
theorem q_row_s {σ : q_S} {c : Int} {g : Int → Int} : q_row σ c g c = g := by
  funext x'
  simp [q_row]
/-- the members of a vertex: those out -/
def mlp (o : Int) : Nat → Int → Int → (Int → Int) → Int × (Int → Int)
  | 0, _, f, g => (f, g)
  | n + 1, i, f, g => if f < 4 then (if q_and (q_shr o i) 1 = 1 then mlp o n (i + 1) (f + 1) (fun j => if j = f then i else g j) else mlp o n (i + 1) f g) else (f, g)
def mem0 (a o nt : Int) (g : Int → Int) : Int × (Int → Int) := if a = -1 then mlp o nt.toNat 0 0 g else mlp o nt.toNat 0 1 (fun j => if j = 0 then a else g j)
def tld (f : Int → Int) : Nat → Int → Int → Int
  | 0, _, k => k
  | n + 1, i, k => tld f n (i + 1) (if f i = 12 then k else k + 1)
def rmv (a o : Int → Int) (t : Int) : Nat → Int → Prop
  | 0, _ => False
  | n + 1, i => (a i = t ∨ q_and (q_shr (o i) t) 1 = 1) ∨ rmv a o t n (i + 1)
/-- a picture's cells are those of another -/
def pcopied (σ σ' : q_S) (q p : Int) : Prop := (∀ k : Int, 0 ≤ k → k < 3 → σ' p k = σ q k) ∧ (∀ j : Int, 0 ≤ j → j < 48 → σ' (p + 1) j = σ (q + 1) j) ∧ (∀ j : Int, 0 ≤ j → j < 8 → σ' (p + 2) j = σ (q + 2) j) ∧ (∀ a j : Int, 3 ≤ a → a ≤ 6 → 0 ≤ j → j < 4 → σ' (p + a) j = σ (q + a) j) ∧ ∀ c x : Int, ¬ (p ≤ c ∧ c ≤ p + 6) → σ' c x = σ c x
def tieok (nt a b : Int) : Prop := (a = -1 ∨ 0 ≤ a ∧ a < nt) ∧ 1 ≤ b ∧ b < q_shl 1 nt ∧ popc b ≤ 3 ∧ (a = -1 ∨ q_and (q_shr b a) 1 = 0)
theorem q_lfP1 {P : Prop} [Decidable P] (h : P) {σ : q_S} : ∃ v, (some (.inl 1) : Option q_V) = some v ∧ (v = .inl (if P then 1 else 0)) := ⟨_, rfl, by rw [if_pos h]⟩
theorem q_cpy_o {σ : q_S} {c0 sp c1 dp n c x : Int} (h : c ≠ c1) : q_cpy σ c0 sp c1 dp n c x = σ c x := by simp [q_cpy, h]
theorem q_cpy_i {σ : q_S} {c0 sp c1 dp n x : Int} (h : dp ≤ x ∧ x < dp + n) : q_cpy σ c0 sp c1 dp n c1 x = σ c0 (sp + (x - dp)) := by simp [q_cpy, h]
