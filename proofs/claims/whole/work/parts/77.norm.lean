/-! only what is in range counts -/
theorem arrV_c {cA n : Nat} {f g : Nat → Value} (h : ∀ j, j < n → f j = g j) : arrV cA n f = arrV cA n g := by
  unfold arrV
  congr 2
  funext j
  exact h j j.isLt
/-- a cell's content agrees in range -/
def rE (C : q_C) (f g : Int → Int) : Prop := match C with
  | .inl (_, fs) => ∀ (k t : Nat), fs[k]? = some (.inl t) → f k = g k
  | .inr (.inl (_, n)) => ∀ j : Nat, j < n → f j = g j
  | .inr (.inr _) => True
theorem flds_c {ad : Int → Nat} {f g : Int → Int} : ∀ (fs : List (Nat ⊕ Int)) (k : Nat), (∀ (j t : Nat), fs[j]? = some (.inl t) → f ((k + j : Nat) : Int) = g ((k + j : Nat) : Int)) → q_flds ad f k fs = q_flds ad g k fs := by
  intro fs
  induction fs with
  | nil => intro k _; rfl
  | cons x fs ih =>
    intro k h
    have h2 := ih (k + 1) (fun j t hj => by
      have := h (j + 1) t hj
      rw [show k + (j + 1) = k + 1 + j by omega] at this
      exact this)
    cases x with
    | inl t =>
      have h1 := h 0 t rfl
      rw [q_flds, q_flds, h2]
      have h1 : f (k : Int) = g (k : Int) := h1
      rw [h1]
    | inr c =>
      rw [q_flds, q_flds, h2]
theorem at_c {D : va_G} {cl : List vw_C} {ad : Int → Nat} {cs : Nat → ClassId} {C : q_C} {f g : Int → Int} {a : Nat} {H : Heap} (hr : rE C f g) (h : va_at D cl (a, q_cell ad cs C f) H) : va_at D cl (a, q_cell ad cs C g) H := by
  match C, hr, h with
  | .inl (ci, fs), hr, h =>
    have e : q_flds ad f 0 fs = q_flds ad g 0 fs := flds_c fs 0 (fun j t hj => by
      rw [Nat.zero_add]
      exact hr j t hj)
    have h : va_at D cl (a, .inr (ci, q_flds ad f 0 fs)) H := h
    rw [e] at h
    exact h
  | .inr (.inl (t, n)), hr, h =>
    by_cases e : t = 1
    · have h : H[a]? = some (vp_cell (cs t) (n, if t = 1 then .inr (.inl (fun j => Int64.ofInt (f j))) else .inl (fun j => Int32.ofInt (f j)))) := h
      show H[a]? = some (vp_cell (cs t) (n, if t = 1 then .inr (.inl (fun j => Int64.ofInt (g j))) else .inl (fun j => Int32.ofInt (g j))))
      rw [if_pos e, vp_cell_l] at h ⊢
      rw [h, arrV_c (fun j hj => by rw [hr j hj])]
    · have h : H[a]? = some (vp_cell (cs t) (n, if t = 1 then .inr (.inl (fun j => Int64.ofInt (f j))) else .inl (fun j => Int32.ofInt (f j)))) := h
      show H[a]? = some (vp_cell (cs t) (n, if t = 1 then .inr (.inl (fun j => Int64.ofInt (g j))) else .inl (fun j => Int32.ofInt (g j))))
      rw [if_neg e, vp_cell_i] at h ⊢
      rw [h, arrV_c (fun j hj => by rw [hr j hj])]
  | .inr (.inr (t, n, q)), hr, h => exact h
theorem wld_c {D : va_G} {cl : List vw_C} {ad : Int → Nat} {cs : Nat → ClassId} {sh : q_H} {σ σ' : q_S} {H : Heap} (hr : ∀ c : Nat, c < sh.1 → rE (sh.2 c) (σ c) (σ' c)) (h : va_P D cl (q_wld ad cs sh σ) H) : va_P D cl (q_wld ad cs sh σ') H := by
  intro k q hq
  by_cases hk : k < sh.1
  · rw [q_wld_at hk] at hq
    cases hq
    exact at_c (hr k hk) (h k _ (q_wld_at hk))
  · exfalso
    unfold q_wld at hq
    rw [List.getElem?_eq_none (by simp; omega)] at hq
    cases hq
def nrm (σ τ : q_S) : q_S := fun c x => if 1 ≤ c ∧ c ≤ 7 then pM (τ 1) c x else σ c x
theorem nrm_o {σ τ : q_S} {c : Int} (h : ¬ (1 ≤ c ∧ c ≤ 7)) : nrm σ τ c = σ c := by
  funext x
  exact if_neg h
theorem nrm_i {σ τ : q_S} {c : Int} (h : 1 ≤ c ∧ c ≤ 7) : nrm σ τ c = pM (τ 1) c := by
  funext x
  exact if_pos h
