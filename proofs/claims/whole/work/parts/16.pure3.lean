def num (k j : Int) : Int := q_num.getD (5 * k + j).toNat 0
theorem num_bd {k j : Int} (hk : 0 ≤ k ∧ k < 12) (hj : 0 ≤ j ∧ j < 4) : q_bd (num k j) 1 := by
  have h : ∀ (k : Fin 12) (j : Fin 4), -1 ≤ q_num.getD (5 * k.val + j.val) 0 ∧ q_num.getD (5 * k.val + j.val) 0 ≤ 1 := by decide
  have h2 := h ⟨k.toNat, by omega⟩ ⟨j.toNat, by omega⟩
  have e : (5 * k + j).toNat = 5 * k.toNat + j.toNat := by omega
  unfold num
  rw [e]
  exact h2
def addE (E : Int → Int) (s k : Int) : Int → Int := fun j => if 0 ≤ j ∧ j < 4 then E j + s * num k j else E j
theorem addE_back (E : Int → Int) (s k : Int) : addE (addE E s k) (-s) k = E := by
  funext j
  unfold addE
  split
  · rw [Int.neg_mul]; omega
  · rfl
def lawful (L : Int) (E : Int → Int) : Prop := (E 0 = 0 ∧ E 1 = 0) ∧ (L = 2 ∨ E 2 = 0 ∧ (if 0 ≤ E 3 then E 3 else -E 3) ≤ (if L = 1 then 1 else 0))
noncomputable def lawful_dec (L : Int) (E : Int → Int) : Decidable (lawful L E) := by unfold lawful; infer_instance
/-- a fold over the kinds -/
def kfold {α : Type} (g : Int → α → α) : Nat → Int → α → α
  | 0, _, s => s
  | m + 1, i, s => kfold g m (i + 1) (g i s)
def c5 (C F : Int → Int) : Int → Int := fun j => if 0 ≤ j ∧ j < 5 then C j else F j
/-- what a found way does: the row chosen, the first way, how many -/
noncomputable def leafW (L : Int) (E : Int → Int) (s : (Int → Int) × (Int → Int) × Int) : (Int → Int) × (Int → Int) × Int := @ite _ (lawful L E) (lawful_dec L E) (s.1, (if s.2.2 = 0 then c5 s.1 s.2.1 else s.2.1), s.2.2 + 1) s
theorem leafW_t {L : Int} {E : Int → Int} {s : (Int → Int) × (Int → Int) × Int} (h : lawful L E) : leafW L E s = (s.1, (if s.2.2 = 0 then c5 s.1 s.2.1 else s.2.1), s.2.2 + 1) := if_pos h
theorem leafW_f {L : Int} {E : Int → Int} {s : (Int → Int) × (Int → Int) × Int} (h : ¬ lawful L E) : leafW L E s = s := if_neg h
/-- all ways from a place on -/
noncomputable def srch (ch sd : Int → Int) (L : Int) : Nat → Int → (Int → Int) → (Int → Int) × (Int → Int) × Int → (Int → Int) × (Int → Int) × Int
  | 0, _, E, s => leafW L E s
  | n + 1, k, E, s => kfold (fun kd s => if num kd 0 = ch k then srch ch sd L n (k + 1) (addE E (sd k) kd) (fun j => if j = k then kd else s.1 j, s.2) else s) 12 0 s
/-- the naming's world: chosen, first, ways, excess -/
def nmW (σ : q_S) (s : (Int → Int) × (Int → Int) × Int) (E : Int → Int) : q_S := q_row (q_row (q_row (q_up σ 84 8 s.2.2) 88 s.1) 89 s.2.1) 90 E
theorem nmW_o {σ : q_S} {s : (Int → Int) × (Int → Int) × Int} {E : Int → Int} {c x : Int} (h : c ≠ 88 ∧ c ≠ 89 ∧ c ≠ 90 ∧ ¬ (c = 84 ∧ x = 8)) : nmW σ s E c x = σ c x := by
  unfold nmW
  rw [q_row_o h.2.2.1, q_row_o h.2.1, q_row_o h.1, q_up_n h.2.2.2]
theorem nmW_E {σ : q_S} {s : (Int → Int) × (Int → Int) × Int} {E : Int → Int} : nmW σ s E 90 = E := q_row_s
theorem nmW_C {σ : q_S} {s : (Int → Int) × (Int → Int) × Int} {E : Int → Int} : nmW σ s E 88 = s.1 := by
  unfold nmW
  rw [q_row_o (by decide), q_row_o (by decide), q_row_s]
theorem nmW_F {σ : q_S} {s : (Int → Int) × (Int → Int) × Int} {E : Int → Int} : nmW σ s E 89 = s.2.1 := by
  unfold nmW
  rw [q_row_o (by decide), q_row_s]
theorem nmW_W {σ : q_S} {s : (Int → Int) × (Int → Int) × Int} {E : Int → Int} : nmW σ s E 84 8 = s.2.2 := by
  unfold nmW
  rw [q_row_o (by decide), q_row_o (by decide), q_row_o (by decide), q_up_s]
theorem nmW_setE {σ : q_S} {s : (Int → Int) × (Int → Int) × Int} {E E' : Int → Int} : q_row (nmW σ s E) 90 E' = nmW σ s E' := by
  funext c x
  unfold nmW q_row
  by_cases h : c = 90 <;> simp [h]
theorem nmW_setC {σ : q_S} {s : (Int → Int) × (Int → Int) × Int} {E : Int → Int} {x v : Int} : q_up (nmW σ s E) 88 x v = nmW σ (fun j => if j = x then v else s.1 j, s.2) E := by
  funext c y
  unfold nmW q_row q_up
  by_cases h : c = 88
  · subst h
    by_cases h2 : y = x <;> simp [h2]
  · by_cases h2 : c = 90 <;> by_cases h3 : c = 89 <;> simp [h, h2, h3]
theorem nmW_setW {σ : q_S} {s : (Int → Int) × (Int → Int) × Int} {E : Int → Int} {v : Int} : q_up (nmW σ s E) 84 8 v = nmW σ (s.1, s.2.1, v) E := by
  funext c y
  unfold nmW q_row q_up
  by_cases h : c = 84
  · subst h
    by_cases h2 : y = 8 <;> simp [h2]
  · simp [h]
theorem nmW_copy {σ : q_S} {s : (Int → Int) × (Int → Int) × Int} {E : Int → Int} : q_cpy (nmW σ s E) 88 0 89 0 5 = nmW σ (s.1, c5 s.1 s.2.1, s.2.2) E := by
  funext c y
  by_cases h : c = 89
  · subst h
    rw [nmW_F]
    unfold q_cpy c5
    dsimp only
    by_cases h2 : 0 ≤ y ∧ y < 5
    · rw [if_pos ⟨rfl, h2.1, by omega⟩, if_pos h2, nmW_C, show (0 : Int) + (y - 0) = y by omega]
    · rw [if_neg (fun z => h2 ⟨z.2.1, by omega⟩), if_neg h2, nmW_F]
  · rw [q_cpy_o h]
    unfold nmW q_row
    by_cases h2 : c = 90 <;> simp [h, h2]
