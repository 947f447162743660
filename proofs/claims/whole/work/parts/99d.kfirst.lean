/-! the two worlds at the start -/
def rfk (n : Nat) (C : q_C) : Bool := match C with
  | .inl (_, fs) => fs.all (fun x => match x with
    | .inl _ => true
    | .inr r => decide (0 ≤ r) && decide (r < (n : Int)))
  | .inr (.inl _) => true
  | .inr (.inr (_, k, g)) => (List.range k).all (fun j => decide (0 ≤ g (j : Int)) && decide (g (j : Int) < (n : Int)))
theorem flds_ad {ad ad' : Int → Nat} {n : Nat} {f : Int → Int} (he : ∀ c : Int, 0 ≤ c → c < n → ad' c = ad c) : ∀ (fs : List (Nat ⊕ Int)) (k : Nat), fs.all (fun x => match x with
    | .inl _ => true
    | .inr r => decide (0 ≤ r) && decide (r < (n : Int))) = true → q_flds ad' f k fs = q_flds ad f k fs := by
  intro fs
  induction fs with
  | nil => intro k _; rfl
  | cons x fs ih =>
    intro k h
    rw [List.all_cons, Bool.and_eq_true] at h
    have h2 := ih (k + 1) h.2
    cases x with
    | inl t => rw [q_flds, q_flds, h2]
    | inr c =>
      have h1 : (decide (0 ≤ c) && decide (c < (n : Int))) = true := h.1
      rw [Bool.and_eq_true, decide_eq_true_eq, decide_eq_true_eq] at h1
      rw [q_flds, q_flds, h2, he c h1.1 h1.2]
theorem at_ad {D : va_G} {cl : List vw_C} {ad ad' : Int → Nat} {cs : Nat → ClassId} {C : q_C} {f : Int → Int} {a n : Nat} {H : Heap} (hr : rfk n C = true) (he : ∀ c : Int, 0 ≤ c → c < n → ad' c = ad c) (h : va_at D cl (a, q_cell ad cs C f) H) : va_at D cl (a, q_cell ad' cs C f) H := by
  match C, hr, h with
  | .inl (ci, fs), hr, h =>
    have e : q_flds ad' f 0 fs = q_flds ad f 0 fs := flds_ad he fs 0 hr
    have h : va_at D cl (a, .inr (ci, q_flds ad f 0 fs)) H := h
    rw [← e] at h
    exact h
  | .inr (.inl (t, n)), hr, h => exact h
  | .inr (.inr (t, k, g)), hr, h =>
    have h : H[a]? = some (vp_cell (cs t) (k, .inr (.inr (.inr (.inr (fun j : Nat => some (ad (g j)))))))) := h
    show H[a]? = some (vp_cell (cs t) (k, .inr (.inr (.inr (.inr (fun j : Nat => some (ad' (g j))))))))
    rw [vp_cell_q] at h ⊢
    rw [h, arrV_c (fun j hj => ?_)]
    have h1 := List.all_eq_true.mp hr j (List.mem_range.mpr hj)
    rw [Bool.and_eq_true, decide_eq_true_eq, decide_eq_true_eq] at h1
    rw [he _ h1.1 h1.2]
theorem wld_ad {D : va_G} {cl : List vw_C} {ad ad' : Int → Nat} {cs : Nat → ClassId} {sh : q_H} {σ : q_S} {H : Heap} (hr : ∀ c : Nat, c < sh.1 → rfk sh.1 (sh.2 c) = true) (he : ∀ c : Int, 0 ≤ c → c < sh.1 → ad' c = ad c) (h : va_P D cl (q_wld ad cs sh σ) H) : va_P D cl (q_wld ad' cs sh σ) H := by
  intro k q hq
  by_cases hk : k < sh.1
  · rw [q_wld_at hk] at hq
    cases hq
    have h1 := h k _ (q_wld_at hk)
    rw [he k (by omega) (by omega)]
    exact at_ad (hr k hk) he h1
  · exfalso
    unfold q_wld at hq
    rw [List.getElem?_eq_none (by simp; omega)] at hq
    cases hq
theorem rfX : ∀ c : Nat, c < shX.1 → rfk shX.1 (shX.2 c) = true := by
  have h : ∀ c : Nat, c < 110 → rfk 110 (shX.2 c) = true := by decide +kernel
  exact h
theorem rfM : ∀ c : Nat, c < shM.1 → rfk shM.1 (shM.2 c) = true := by
  have h : ∀ c : Nat, c < 22 → rfk 22 (shM.2 c) = true := by decide +kernel
  exact h
def bd (f : Int → Int) : Prop := ∀ x : Int, -1 ≤ f x ∧ f x ≤ 120
theorem bd_0 : bd (fun _ => 0) := fun _ => (⟨by decide, by decide⟩ : (-1 : Int) ≤ 0 ∧ (0 : Int) ≤ 120)
theorem bd_ud {f : Int → Int} {i v : Int} (h : bd f) (hv : -1 ≤ v ∧ v ≤ 120) : bd (ud f i v) := by
  intro x
  unfold ud
  split
  · exact hv
  · exact h x
theorem bd_if {i v : Int} (hv : -1 ≤ v ∧ v ≤ 120) : bd (fun x => if x = i then v else 0) := by
  intro x
  dsimp only
  split
  · exact hv
  · exact ⟨by decide, by decide⟩
theorem bd_X7 (c : Int) : bd (sgKX7 c) := by
  unfold sgKX7
  repeat' split
  all_goals first
    | exact bd_0
    | exact bd_if ⟨by decide, by decide⟩
theorem bd_X8 (c : Int) : bd (sgKX8 c) := by
  unfold sgKX8
  repeat' split
  all_goals repeat' first
    | exact bd_0
    | refine bd_ud ?_ ⟨by decide, by decide⟩
def okC (C : q_C) : Bool := match C with
  | .inl (_, fs) => fs.all (fun x => match x with
    | .inl t => Nat.ble t 2
    | .inr _ => true)
  | .inr (.inl (t, _)) => Nat.ble t 2
  | .inr (.inr _) => true
theorem tr_bd {t : Nat} {x : Int} (ht : Nat.ble t 2 = true) (h : -1 ≤ x ∧ x ≤ 120) : q_tr t x := by
  have ht := Nat.le_of_ble_eq_true ht
  rcases (by omega : t = 0 ∨ t = 1 ∨ t = 2) with rfl | rfl | rfl
  · exact ⟨by omega, by omega⟩
  · exact ⟨by omega, by omega⟩
  · exact ⟨by omega, by omega⟩
theorem tr_0 {t : Nat} : q_tr t 0 := by
  unfold q_tr
  split
  · exact ⟨by decide, by decide⟩
  · exact ⟨by decide, by decide⟩
  · exact ⟨by decide, by decide⟩
  · exact ⟨by decide, by decide⟩
  · exact ⟨by decide, by decide⟩
theorem rg_bd {C : q_C} {f : Int → Int} (hC : okC C = true) (h : bd f) : q_rg C f := by
  match C, hC with
  | .inl (ci, fs), hC =>
    intro k t hk
    exact tr_bd (List.all_eq_true.mp hC _ (List.mem_of_getElem? hk)) (h k)
  | .inr (.inl (t, n)), hC => exact fun k => tr_bd hC (h k)
  | .inr (.inr _), _ => trivial
theorem rg_0 {C : q_C} {f : Int → Int} (h : ∀ x, f x = 0) : q_rg C f := by
  match C with
  | .inl (ci, fs) =>
    intro k t hk
    rw [h]
    exact tr_0
  | .inr (.inl (t, n)) =>
    intro k
    rw [h]
    exact tr_0
  | .inr (.inr _) => trivial
theorem rng_X7 : q_rng shX sgKX7 := by
  have h : ∀ c : Nat, c < 110 → (c = 0 ∨ c = 94) ∨ okC (shX.2 c) = true := by decide +kernel
  intro c hc
  rcases h c hc with (rfl | rfl) | h1
  · exact rg_0 (fun x => rfl)
  · exact rg_0 (fun x => rfl)
  · exact rg_bd h1 (bd_X7 c)
theorem rng_X8 : q_rng shM sgKX8 := by
  have h : ∀ c : Nat, c < 22 → c = 0 ∨ okC (shM.2 c) = true := by decide +kernel
  intro c hc
  rcases h c hc with rfl | h1
  · exact rg_0 (fun x => rfl)
  · exact rg_bd h1 (bd_X8 c)
theorem st_x2 (c : Int) (h : 2 ≤ c ∧ c ≤ 9) : sgKX7 c = fun _ => 0 := by
  unfold sgKX7
  rw [if_neg (by omega), if_pos (by omega)]
theorem st_x1 : sgKX7 1 = fun x => if x = 0 then 3 else 0 := rfl
theorem st_x0 : sgKX7 0 = fun _ => 0 := rfl
theorem st_m0 : sgKX8 0 = fun _ => 0 := rfl
theorem st_m1 (x : Int) : sgKX8 1 x = if x = 0 then 3 else 0 := rfl
theorem st_m18 (l : Int) (h : 0 ≤ l ∧ l < 3) : sgKX8 18 l = -1 := by
  rcases (by omega : l = 0 ∨ l = 1 ∨ l = 2) with rfl | rfl | rfl <;> rfl
theorem st_xr (l : Int) (h : 0 ≤ l ∧ l < 3) : sgKX7 (104 + 2 * l) 1 = -1 := by
  rcases (by omega : l = 0 ∨ l = 1 ∨ l = 2) with rfl | rfl | rfl <;> rfl
theorem st_xq (l : Int) (h : 0 ≤ l ∧ l < 3) (j : Int) : sgKX7 (104 + 2 * l + 1) j = 0 := by
  rcases (by omega : l = 0 ∨ l = 1 ∨ l = 2) with rfl | rfl | rfl <;> rfl
theorem Rel_0 : Rel sgKX7 sgKX8 := by
  have e7 : ∀ x : Int, sgKX7 1 x = sgKX8 1 x := fun x => rfl
  have x8 : sgKX7 8 = fun _ => 0 := st_x2 8 (by decide)
  have hP : pE sgKX7 (pM (sgKX8 1)) := by
    refine ⟨fun j _ _ => rfl, fun j j0 j1 => ?_, fun j j0 j1 => ?_, fun k j k0 k1 j0 j1 => ?_⟩
    · show sgKX7 2 j = sgKX8 1 (3 + j)
      rw [st_m1, if_neg (by omega), st_x2 2 (by decide)]
    · show sgKX7 3 j = if sgKX8 1 (51 + j) = -1 then 12 else sgKX8 1 (51 + j)
      rw [st_m1, if_neg (by omega), if_neg (by omega), st_x2 3 (by decide)]
    · rw [st_x2 k (by omega)]
      rcases (by omega : k = 4 ∨ k = 5 ∨ k = 6 ∨ k = 7) with rfl | rfl | rfl | rfl
      · show 0 = sgKX8 1 (59 + 4 * j + 0)
        rw [st_m1, if_neg (by omega)]
      · show 0 = sgKX8 1 (59 + 4 * j + 1)
        rw [st_m1, if_neg (by omega)]
      · show 0 = sgKX8 1 (59 + 4 * j + 2)
        rw [st_m1, if_neg (by omega)]
      · show 0 = sgKX8 1 (59 + 4 * j + 3)
        rw [st_m1, if_neg (by omega)]
  have hI : IPs sgKX7 := by
    have a0 : sgKX7 1 0 = 3 := rfl
    have a1 : sgKX7 1 1 = 0 := rfl
    have a2 : sgKX7 1 2 = 0 := rfl
    unfold IPs IPp
    rw [a0, a1, a2]
    exact ⟨⟨by decide, by decide⟩, ⟨by decide, by decide⟩, ⟨by decide, by decide⟩, fun t t0 t1 => by omega, fun t t0 t1 => by omega, fun v v0 v1 => by omega⟩
  have z91 : sgKX7 91 = fun _ => 0 := rfl
  have m1 : sgKX8 1 1 = 0 := rfl
  refine ⟨⟨⟨hI, ?_, ?_, ?_, ?_, ?_, ?_⟩, ⟨IPs_pE hI (pE_s hP), ?_, ?_, ?_, ?_, ?_, ?_, ?_⟩⟩, hP, ⟨?_, ?_⟩, ⟨?_, ?_⟩, ⟨?_, ?_⟩, ⟨?_, ?_⟩, ?_⟩
  · rw [x8]
    exact ⟨by decide, by decide⟩
  · rw [x8]
    exact ⟨by decide, by decide⟩
  · rw [z91]
    exact ⟨by decide, by decide⟩
  · intro k k0 k1
    rw [z91] at k1
    have k1 : k < 0 := k1
    omega
  · rw [st_x0]
    exact ⟨by decide, by decide⟩
  · intro l l0 l1
    rw [st_xr l ⟨l0, l1⟩]
    exact ⟨by decide, by decide⟩
  · intro t t0 t1
    rw [m1] at t1
    have t1 : t < 0 := t1
    omega
  · intro k k0 k1
    rcases (by omega : k = 0 ∨ k = 1 ∨ k = 2 ∨ k = 3 ∨ k = 4 ∨ k = 5 ∨ k = 6 ∨ k = 7 ∨ k = 8 ∨ k = 9 ∨ k = 10 ∨ k = 11) with rfl | rfl | rfl | rfl | rfl | rfl | rfl | rfl | rfl | rfl | rfl | rfl <;> decide +kernel
  · rw [st_m0]
    exact ⟨by decide, by decide⟩
  · rw [st_m0]
    exact ⟨by decide, by decide⟩
  · intro k k0 k1
    rw [st_m0] at k1
    have k1 : k < 0 := k1
    omega
  · rw [st_m0]
    exact ⟨by decide, by decide⟩
  · intro l l0 l1
    rw [st_m18 l ⟨l0, l1⟩]
    exact ⟨by decide, by decide⟩
  · rw [x8, st_m0]
  · intro k k0 k1
    rw [st_m0] at k1
    have k1 : k < 0 := k1
    omega
  · rw [st_x0, st_m0]
  · intro hz
    exact absurd rfl hz
  · rw [z91, st_m0]
  · intro k k0 k1
    rw [st_m0] at k1
    have k1 : k < 0 := k1
    omega
  · rw [st_x0, st_m0]
  · intro k k0 k1
    rw [st_m0] at k1
    have k1 : k < 0 := k1
    omega
  · intro l l0 l1
    refine ⟨by rw [st_xr l ⟨l0, l1⟩, st_m18 l ⟨l0, l1⟩], fun j _ _ => ?_⟩
    rw [st_xq l ⟨l0, l1⟩]
    rfl
