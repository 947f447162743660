theorem q_wld_at {ad : Int → Nat} {cs : Nat → ClassId} {sh : q_H} {σ : q_S} {c : Nat} (hc : c < sh.1) : (q_wld ad cs sh σ)[c]? = some (ad c, q_cell ad cs (sh.2 c) (σ c)) := by
  simp [q_wld, hc]
theorem q_D {ad : Int → Nat} {cs : Nat → ClassId} {sh : q_H} (σ : q_S) (h : q_inj ad sh.1) : va_D (q_A ad sh.1) (q_wld ad cs sh σ) := by
  refine ⟨fun i j p q hi hj e => ?_, fun k q hk => ?_⟩
  · obtain ⟨hi1, hi2⟩ := List.getElem?_eq_some_iff.mp hi
    obtain ⟨hj1, hj2⟩ := List.getElem?_eq_some_iff.mp hj
    simp [q_wld] at hi1 hj1 hi2 hj2
    subst hi2
    subst hj2
    exact h i j hi1 hj1 e
  · obtain ⟨hk1, hk2⟩ := List.getElem?_eq_some_iff.mp hk
    simp [q_wld] at hk1 hk2
    subst hk2
    exact ⟨k, hk1, rfl⟩
theorem q_wld_set {ad : Int → Nat} {cs : Nat → ClassId} {sh : q_H} {σ σ' : q_S} {c : Nat} {e : va_E} (he : e = q_cell ad cs (sh.2 c) (σ' c)) (ho : ∀ c' : Nat, c' ≠ c → σ' c' = σ c') : (q_wld ad cs sh σ).set c (ad c, e) = q_wld ad cs sh σ' := by
  subst he
  apply List.ext_getElem?
  intro i
  rw [List.getElem?_set]
  by_cases hi : i < sh.1
  · rw [q_wld_at hi]
    by_cases hci : c = i
    · subst hci
      have hl : c < (q_wld ad cs sh σ).length := by simpa [q_wld] using hi
      simp [hl, q_wld_at hi]
    · rw [if_neg hci, q_wld_at hi, ho i (fun h => hci h.symm)]
  · have h1 : (q_wld ad cs sh σ).length ≤ i := by simpa [q_wld] using Nat.not_lt.mp hi
    have h2 : (q_wld ad cs sh σ')[i]? = none := by simpa [q_wld] using Nat.not_lt.mp hi
    rw [h2]
    by_cases hci : c = i
    · subst hci
      rw [if_pos rfl, if_neg (by omega)]
    · rw [if_neg hci]
      simpa [q_wld] using Nat.not_lt.mp hi
theorem q_flds_i {ad : Int → Nat} {f : Int → Int} {fs : List (Nat ⊕ Int)} : ∀ {k0 k t : Nat}, fs[k]? = some (.inl t) → (q_flds ad f k0 fs)[k]? = some (if t = 1 then .long (Int64.ofInt (f ((k0 + k : Nat) : Int))) else .int (Int32.ofInt (f ((k0 + k : Nat) : Int)))) := by
  induction fs with
  | nil => intro k0 k t h; simp at h
  | cons a r ih =>
    intro k0 k t h
    cases k with
    | zero =>
      simp at h
      subst h
      rfl
    | succ k =>
      have h' : r[k]? = some (.inl t) := by simpa using h
      have := ih (k0 := k0 + 1) h'
      rw [show k0 + 1 + k = k0 + (k + 1) by omega] at this
      cases a <;> simpa [q_flds] using this
theorem q_flds_r {ad : Int → Nat} {f : Int → Int} {fs : List (Nat ⊕ Int)} {c : Int} : ∀ {k0 k : Nat}, fs[k]? = some (.inr c) → (q_flds ad f k0 fs)[k]? = some (.ref (ad c)) := by
  induction fs with
  | nil => intro k0 k h; simp at h
  | cons a r ih =>
    intro k0 k h
    cases k with
    | zero =>
      simp at h
      subst h
      rfl
    | succ k =>
      have h' : r[k]? = some (.inr c) := by simpa using h
      have := ih (k0 := k0 + 1) h'
      cases a <;> simpa [q_flds] using this
theorem q_flds_len {ad : Int → Nat} {f : Int → Int} {fs : List (Nat ⊕ Int)} : ∀ {k0 : Nat}, (q_flds ad f k0 fs).length = fs.length := by
  induction fs with
  | nil => intro k0; rfl
  | cons a r ih => intro k0; cases a <;> simp [q_flds, ih]
theorem q_flds_same {ad : Int → Nat} {f f' : Int → Int} {fs : List (Nat ⊕ Int)} : ∀ {k0 : Nat}, (∀ j : Nat, k0 ≤ j → f' j = f j) → q_flds ad f' k0 fs = q_flds ad f k0 fs := by
  induction fs with
  | nil => intro k0 _; rfl
  | cons a r ih =>
    intro k0 h
    have h0 := h k0 (Nat.le_refl _)
    have h1 := ih (k0 := k0 + 1) (fun j hj => h j (by omega))
    cases a <;> simp [q_flds, h0, h1]
theorem q_flds_set {ad : Int → Nat} {f f' : Int → Int} {fs : List (Nat ⊕ Int)} {v : Value} : ∀ {k0 k t : Nat}, fs[k]? = some (.inl t) → v = (if t = 1 then .long (Int64.ofInt (f' ((k0 + k : Nat) : Int))) else .int (Int32.ofInt (f' ((k0 + k : Nat) : Int)))) → (∀ j : Nat, j ≠ k0 + k → f' j = f j) → (q_flds ad f k0 fs).set k v = q_flds ad f' k0 fs := by
  induction fs with
  | nil => intro k0 k t h; simp at h
  | cons a r ih =>
    intro k0 k t h hv ho
    cases k with
    | zero =>
      simp at h
      subst h
      subst hv
      have := q_flds_same (ad := ad) (fs := r) (f := f) (f' := f') (k0 := k0 + 1) (fun j hj => ho j (by omega))
      simp [q_flds, this]
    | succ k =>
      have h' : r[k]? = some (.inl t) := by simpa using h
      have := ih (k0 := k0 + 1) (k := k) (t := t) h' (by rw [hv, show k0 + 1 + k = k0 + (k + 1) by omega]) (fun j hj => ho j (by omega))
      have h0 := ho k0 (by omega)
      cases a <;> simp [q_flds, this, h0]
theorem q_tr32 {t : Nat} (ht : t ≠ 1) {x : Int} (h : q_tr t x) : q_i32 x := by
  unfold q_tr at h
  unfold q_i32 at *
  split at h
  · exact h
  · exact absurd rfl ht
  · omega
  · omega
  · omega
theorem q_up_c {σ : q_S} {c x v : Int} : q_up σ c x v c = fun x' => if x' = x then v else σ c x' := by funext x'; simp [q_up]
theorem q_up_o {σ : q_S} {c c' x v : Int} (h : c' ≠ c) : q_up σ c x v c' = σ c' := by funext x'; simp [q_up, h]
theorem q_up_s {σ : q_S} {c x v : Int} : q_up σ c x v c x = v := by simp [q_up]
theorem q_up_n {σ : q_S} {c c' x x' v : Int} (h : ¬ (c' = c ∧ x' = x)) : q_up σ c x v c' x' = σ c' x' := by simp [q_up, h]
theorem q_rng_up {sh : q_H} {σ : q_S} {c x v : Int} (h : q_rng sh σ) (hc : ∀ n : Nat, (n : Int) = c → n < sh.1 → q_rg (sh.2 c) (fun x' => if x' = x then v else σ c x')) : q_rng sh (q_up σ c x v) := by
  intro n hn
  by_cases e : (n : Int) = c
  · subst e
    rw [q_up_c]
    exact hc n rfl hn
  · rw [q_up_o e]
    exact h n hn
/-- a cell of the table -/
def q_is (sh : q_H) (c : Int) (C : q_C) : Prop := (0 ≤ c ∧ c < (sh.1 : Int)) ∧ sh.2 c = C
theorem q_is_at {sh : q_H} {c : Int} {C : q_C} (h : q_is sh c C) {ad : Int → Nat} {cs : Nat → ClassId} {σ : q_S} : ∃ n : Nat, (n : Int) = c ∧ n < sh.1 ∧ (q_wld ad cs sh σ)[n]? = some (ad c, q_cell ad cs C (σ c)) := by
  obtain ⟨⟨h1, h2⟩, rfl⟩ := h
  refine ⟨c.toNat, Int.toNat_of_nonneg h1, by omega, ?_⟩
  have := q_wld_at (ad := ad) (cs := cs) (sh := sh) (σ := σ) (c := c.toNat) (by omega)
  rwa [Int.toNat_of_nonneg h1] at this
/-- the locals -/
def q_lo (ad : Int → Nat) (nL : Nat) (ls : List (Option q_V)) (la : Array Slot) : Prop := la.size = nL ∧ lv_wf la ∧ ∀ (i : Nat) (v : q_V), ls[i]? = some (some v) → q_ok v ∧ la[i]? = some (.val (q_cv ad v))
def q_lv (ad : Int → Nat) : Nat → List (Option q_V) → List (Nat × Value)
  | _, [] => []
  | i, none :: r => q_lv ad (i + 1) r
  | i, some v :: r => (i, q_cv ad v) :: q_lv ad (i + 1) r
theorem q_lv_of {ad : Int → Nat} {ls : List (Option q_V)} : ∀ {i : Nat} {q : Nat × Value}, q ∈ q_lv ad i ls → ∃ (j : Nat) (v : q_V), ls[j]? = some (some v) ∧ q = (i + j, q_cv ad v) := by
  induction ls with
  | nil => intro i q h; simp [q_lv] at h
  | cons a r ih =>
    intro i q h
    cases a with
    | none =>
      obtain ⟨j, v, h1, h2⟩ := ih (i := i + 1) h
      exact ⟨j + 1, v, by simpa using h1, by rw [h2, show i + 1 + j = i + (j + 1) by omega]⟩
    | some v =>
      rcases List.mem_cons.mp h with h | h
      · exact ⟨0, v, rfl, h⟩
      · obtain ⟨j, v, h1, h2⟩ := ih (i := i + 1) h
        exact ⟨j + 1, v, by simpa using h1, by rw [h2, show i + 1 + j = i + (j + 1) by omega]⟩
theorem q_lv_in {ad : Int → Nat} {ls : List (Option q_V)} : ∀ {i j : Nat} {v : q_V}, ls[j]? = some (some v) → (i + j, q_cv ad v) ∈ q_lv ad i ls := by
  induction ls with
  | nil => intro i j v h; simp at h
  | cons a r ih =>
    intro i j v h
    cases j with
    | zero =>
      simp at h
      subst h
      exact List.mem_cons_self
    | succ j =>
      have h' : r[j]? = some (some v) := by simpa using h
      have := ih (i := i + 1) h'
      rw [show i + 1 + j = i + (j + 1) by omega] at this
      cases a with
      | none => exact this
      | some v => exact List.mem_cons_of_mem _ this
theorem q_lo.has {ad : Int → Nat} {nL : Nat} {ls : List (Option q_V)} {la : Array Slot} (h : q_lo ad nL ls la) : lv_has la nL (q_lv ad 0 ls) := by
  refine ⟨h.1, h.2.1, fun q hq => ?_⟩
  obtain ⟨j, v, h1, rfl⟩ := q_lv_of hq
  rw [Nat.zero_add]
  exact (h.2.2 j v h1).2
def q_wide (o : Option q_V) : Bool := match o with
  | some (.inr (.inl _)) => true
  | _ => false
theorem q_cat (ad : Int → Nat) (v : q_V) : (q_cv ad v).category = 2 ↔ q_wide (some v) = true := by
  rcases v with x | x | x <;> simp [q_cv, q_wide, Value.category]
/-- behind a store of a one-word value -/
theorem q_lo.st1 {ad : Int → Nat} {nL i : Nat} {ls ls' : List (Option q_V)} {la la' : Array Slot} {v : q_V} (h : q_lo ad nL ls la) (hv : q_ok v)
    (h' : lv_has la' nL ((i, q_cv ad v) :: (q_lv ad 0 ls).filter (fun q => !(q.1 == i) && !(q.1 + 1 == i && q.2.category == 2))))
    (hl : ∀ (j : Nat) (u : q_V), ls'[j]? = some (some u) → (j = i ∧ u = v) ∨ (j ≠ i ∧ ls[j]? = some (some u) ∧ (j + 1 = i → q_wide (some u) = false))) : q_lo ad nL ls' la' := by
  refine ⟨h'.1, h'.2.1, fun j u hj => ?_⟩
  rcases hl j u hj with ⟨rfl, rfl⟩ | ⟨h1, h2, h3⟩
  · exact ⟨hv, h'.2.2 _ List.mem_cons_self⟩
  · refine ⟨(h.2.2 j u h2).1, h'.2.2 (j, q_cv ad u) (List.mem_cons_of_mem _ (List.mem_filter.mpr ⟨by simpa using q_lv_in (i := 0) h2, ?_⟩))⟩
    by_cases e : j + 1 = i
    · have := h3 e
      have hc : ¬ (q_cv ad u).category = 2 := by rw [q_cat, this]; simp
      simp [h1, hc]
    · simp [h1, e]
/-- behind a store of a two-word value -/
theorem q_lo.st2 {ad : Int → Nat} {nL i : Nat} {ls ls' : List (Option q_V)} {la la' : Array Slot} {v : q_V} (h : q_lo ad nL ls la) (hv : q_ok v)
    (h' : lv_has la' nL ((i, q_cv ad v) :: (q_lv ad 0 ls).filter (fun q => !(q.1 == i) && (!(q.1 == i + 1) && !(q.1 + 1 == i && q.2.category == 2)))))
    (hl : ∀ (j : Nat) (u : q_V), ls'[j]? = some (some u) → (j = i ∧ u = v) ∨ (j ≠ i ∧ j ≠ i + 1 ∧ ls[j]? = some (some u) ∧ (j + 1 = i → q_wide (some u) = false))) : q_lo ad nL ls' la' := by
  refine ⟨h'.1, h'.2.1, fun j u hj => ?_⟩
  rcases hl j u hj with ⟨rfl, rfl⟩ | ⟨h1, h1', h2, h3⟩
  · exact ⟨hv, h'.2.2 _ List.mem_cons_self⟩
  · refine ⟨(h.2.2 j u h2).1, h'.2.2 (j, q_cv ad u) (List.mem_cons_of_mem _ (List.mem_filter.mpr ⟨by simpa using q_lv_in (i := 0) h2, ?_⟩))⟩
    by_cases e : j + 1 = i
    · have := h3 e
      have hc : ¬ (q_cv ad u).category = 2 := by rw [q_cat, this]; simp
      simp [h1, h1', hc]
    · simp [h1, h1', e]
/-- the room of a method -/
def q_rm (M : q_M) : Room := { frames := q_dp M, cells := 0, slots := 0, locals := 64 * q_dp M }
/-- the machine stands in a method, its world holds σ; hret: what an answer is worth -/
def q_En (M : q_M) (sh : q_H) (σ : q_S) (Q : Option q_V → q_S → Prop) (p : Program) (l : Launch) (e : Env) (s : State) (m : MethodId) (args : Array Value) (below : List Frame) (meth : Method) (c : Code) (D : va_G) (cs : Nat → ClassId) (ad : Int → Nat) (H : Heap) (locs : List Loc) (Qf : State → Prop) : Prop :=
  (p.tables.exec = Jvm.exec ∧ c.code = q_cc M ∧ c.maxLocals = q_nL M ∧ s.vm.findClass (q_own M) = some m.cls ∧ (∀ w ∈ q_ws M, w.before args s = true) ∧ va_K D vwCl (q_tys cs) s ∧ q_N s ∧ q_St ad (q_A ad sh.1) s s.heap ∧ q_inj ad sh.1) ∧
  (q_rng sh σ ∧ va_P D vwCl (q_wld ad cs sh σ) H ∧ va_S (q_A ad sh.1) s.heap H locs) ∧
  ∀ (r : Option q_V) (σ' : q_S) (H' : Heap) (locs' : List Loc), Q r σ' → q_oks r.toList → q_rng sh σ' → va_P D vwCl (q_wld ad cs sh σ') H' → va_S (q_A ad sh.1) s.heap H' locs' →
    ∀ (pc' : Nat) (la' : Array Slot), (decode (q_cc M) pc' = .ok (.ireturn, 1) ∧ (∃ x, r = some (.inl x) ∧ ∃ ty, q_rt M = some ty ∧ narrow ty (.int (Int32.ofInt x)) = .int (Int32.ofInt x)) ∨ decode (q_cc M) pc' = .ok (.lreturn, 1) ∧ (∃ x, r = some (.inr (.inl x))) ∧ q_rt M = some .long ∨ decode (q_cc M) pc' = .ok (.areturn, 1) ∧ (∃ x, r = some (.inr (.inr x))) ∧ (∃ n, q_rt M = some (.object n)) ∨ decode (q_cc M) pc' = .ok (.return_, 1) ∧ r = none ∧ q_rt M = none) →
    W p l e (q_rm M) s m args below meth c H' locs' 0 0 Qf (F0 m pc' la' (r.toList.map (q_cv ad)))
def q_WP (M : q_M) (sh : q_H) (pc : Nat) (ls : List (Option q_V)) (st : List q_V) (σ : q_S) (Q : Option q_V → q_S → Prop) : Prop :=
  ∀ (p : Program) (l : Launch) (e : Env) (s : State) (m : MethodId) (args : Array Value) (below : List Frame) (meth : Method) (c : Code) (D : va_G) (cs : Nat → ClassId) (ad : Int → Nat) (H : Heap) (locs : List Loc) (la : Array Slot) (Qf : State → Prop),
    q_En M sh σ Q p l e s m args below meth c D cs ad H locs Qf → q_lo ad (q_nL M) ls la → q_oks st →
    W p l e (q_rm M) s m args below meth c H locs 0 0 Qf (F0 m pc la (st.map (q_cv ad)))

theorem q_iconst {M : q_M} {sh : q_H} {pc n : Nat} {ls : List (Option q_V)} {st : List q_V} {σ : q_S} {Q : Option q_V → q_S → Prop} {x : Int} (hd : decode (q_cc M) pc = .ok (.iconst x, 1)) (hn : pc + 1 = n) (hx : q_i32 x := by constructor <;> decide) (k : q_WP M sh n ls (.inl x :: st) σ Q) : q_WP M sh pc ls (st) σ Q := by
  subst hn
  intro p l e s m args below meth c D cs ad H locs la Qf E L O
  have k' := k p l e s m args below meth c D cs ad H locs la Qf E L ⟨hx, O⟩
  exact lv_iconst E.1.1 E.1.2.1 hd rfl k'
theorem q_bipush {M : q_M} {sh : q_H} {pc n : Nat} {ls : List (Option q_V)} {st : List q_V} {σ : q_S} {Q : Option q_V → q_S → Prop} {x : Int} (hd : decode (q_cc M) pc = .ok (.bipush x, 2)) (hn : pc + 2 = n) (hx : q_i32 x := by constructor <;> decide) (hv : (Int8.ofInt x).toInt32 = Int32.ofInt x := by decide) (k : q_WP M sh n ls (.inl x :: st) σ Q) : q_WP M sh pc ls (st) σ Q := by
  subst hn
  intro p l e s m args below meth c D cs ad H locs la Qf E L O
  have k' := k p l e s m args below meth c D cs ad H locs la Qf E L ⟨hx, O⟩
  exact lv_bipush E.1.1 E.1.2.1 hd hv k'
theorem q_sipush {M : q_M} {sh : q_H} {pc n : Nat} {ls : List (Option q_V)} {st : List q_V} {σ : q_S} {Q : Option q_V → q_S → Prop} {x : Int} (hd : decode (q_cc M) pc = .ok (.sipush x, 3)) (hn : pc + 3 = n) (hx : q_i32 x := by constructor <;> decide) (hv : (Int16.ofInt x).toInt32 = Int32.ofInt x := by decide) (k : q_WP M sh n ls (.inl x :: st) σ Q) : q_WP M sh pc ls (st) σ Q := by
  subst hn
  intro p l e s m args below meth c D cs ad H locs la Qf E L O
  have k' := k p l e s m args below meth c D cs ad H locs la Qf E L ⟨hx, O⟩
  exact lv_sipush E.1.1 E.1.2.1 hd hv k'
theorem q_lconst {M : q_M} {sh : q_H} {pc n : Nat} {ls : List (Option q_V)} {st : List q_V} {σ : q_S} {Q : Option q_V → q_S → Prop} {y : Fin 2} {x : Int} (hd : decode (q_cc M) pc = .ok (.lconst y, 1)) (hn : pc + 1 = n) (hx : q_i64 x := by constructor <;> decide) (hv : Int64.ofNat (y : Nat) = Int64.ofInt x := by decide) (k : q_WP M sh n ls (.inr (.inl x) :: st) σ Q) : q_WP M sh pc ls (st) σ Q := by
  subst hn
  intro p l e s m args below meth c D cs ad H locs la Qf E L O
  have k' := k p l e s m args below meth c D cs ad H locs la Qf E L ⟨hx, O⟩
  exact lv_lconst E.1.1 E.1.2.1 hd hv k'
theorem q_ldc2 {M : q_M} {sh : q_H} {pc n : Nat} {ls : List (Option q_V)} {st : List q_V} {σ : q_S} {Q : Option q_V → q_S → Prop} {idx : Nat} {x : Int} {v : Int64} (hd : decode (q_cc M) pc = .ok (.ldc2_w idx, 3)) (hn : pc + 3 = n) (hc : Cond.constantLong (q_own M) idx v ∈ q_words) (hx : q_i64 x := by constructor <;> decide) (hv : v = Int64.ofInt x := by decide) (k : q_WP M sh n ls (.inr (.inl x) :: st) σ Q) : q_WP M sh pc ls st σ Q := by
  subst hn
  intro p l e s m args below meth c D cs ad H locs la Qf E L O
  have k' := k p l e s m args below meth c D cs ad H locs la Qf E L ⟨hx, O⟩
  subst hv
  exact lv_ldc2 E.1.1 E.1.2.1 E.1.2.2.2.1 (E.1.2.2.2.2.1 _ (List.mem_cons_of_mem _ hc)) hd k'
theorem q_ldc {M : q_M} {sh : q_H} {pc n : Nat} {ls : List (Option q_V)} {st : List q_V} {σ : q_S} {Q : Option q_V → q_S → Prop} {idx : Nat} {x : Int} {v : Int32} (hd : decode (q_cc M) pc = .ok (.ldc idx, 2)) (hn : pc + 2 = n) (hc : Cond.constant (q_own M) idx v ∈ q_words) (hx : q_i32 x := by constructor <;> decide) (hv : v = Int32.ofInt x := by decide) (k : q_WP M sh n ls (.inl x :: st) σ Q) : q_WP M sh pc ls st σ Q := by
  subst hn
  intro p l e s m args below meth c D cs ad H locs la Qf E L O
  have k' := k p l e s m args below meth c D cs ad H locs la Qf E L ⟨hx, O⟩
  subst hv
  exact lv_ldc E.1.1 E.1.2.1 E.1.2.2.2.1 (E.1.2.2.2.2.1 _ (List.mem_cons_of_mem _ hc)) hd k'
theorem q_ldcw {M : q_M} {sh : q_H} {pc n : Nat} {ls : List (Option q_V)} {st : List q_V} {σ : q_S} {Q : Option q_V → q_S → Prop} {idx : Nat} {x : Int} {v : Int32} (hd : decode (q_cc M) pc = .ok (.ldc_w idx, 3)) (hn : pc + 3 = n) (hc : Cond.constant (q_own M) idx v ∈ q_words) (hx : q_i32 x := by constructor <;> decide) (hv : v = Int32.ofInt x := by decide) (k : q_WP M sh n ls (.inl x :: st) σ Q) : q_WP M sh pc ls st σ Q := by
  subst hn
  intro p l e s m args below meth c D cs ad H locs la Qf E L O
  have k' := k p l e s m args below meth c D cs ad H locs la Qf E L ⟨hx, O⟩
  subst hv
  exact lv_ldcw E.1.1 E.1.2.1 E.1.2.2.2.1 (E.1.2.2.2.2.1 _ (List.mem_cons_of_mem _ hc)) hd k'
theorem q_iload_n {M : q_M} {sh : q_H} {pc n : Nat} {ls : List (Option q_V)} {st : List q_V} {σ : q_S} {Q : Option q_V → q_S → Prop} {i : Fin 4} {x : Int} (hd : decode (q_cc M) pc = .ok (.iload_n i, 1)) (hn : pc + 1 = n) (hl : ls[(i : Nat)]? = some (some (.inl x))) (k : q_WP M sh n ls (.inl x :: st) σ Q) : q_WP M sh pc ls st σ Q := by
  subst hn
  intro p l e s m args below meth c D cs ad H locs la Qf E L O
  obtain ⟨h1, h2⟩ := L.2.2 _ _ hl
  exact lv_iload_n E.1.1 E.1.2.1 hd rfl h2 (k p l e s m args below meth c D cs ad H locs la Qf E L ⟨h1, O⟩)
theorem q_iload {M : q_M} {sh : q_H} {pc n : Nat} {ls : List (Option q_V)} {st : List q_V} {σ : q_S} {Q : Option q_V → q_S → Prop} {i : Nat} {x : Int} (hd : decode (q_cc M) pc = .ok (.iload i, 2)) (hn : pc + 2 = n) (hl : ls[i]? = some (some (.inl x))) (k : q_WP M sh n ls (.inl x :: st) σ Q) : q_WP M sh pc ls st σ Q := by
  subst hn
  intro p l e s m args below meth c D cs ad H locs la Qf E L O
  obtain ⟨h1, h2⟩ := L.2.2 _ _ hl
  exact lv_iload E.1.1 E.1.2.1 hd h2 (k p l e s m args below meth c D cs ad H locs la Qf E L ⟨h1, O⟩)
theorem q_lload_n {M : q_M} {sh : q_H} {pc n : Nat} {ls : List (Option q_V)} {st : List q_V} {σ : q_S} {Q : Option q_V → q_S → Prop} {i : Fin 4} {x : Int} (hd : decode (q_cc M) pc = .ok (.lload_n i, 1)) (hn : pc + 1 = n) (hl : ls[(i : Nat)]? = some (some (.inr (.inl x)))) (k : q_WP M sh n ls (.inr (.inl x) :: st) σ Q) : q_WP M sh pc ls st σ Q := by
  subst hn
  intro p l e s m args below meth c D cs ad H locs la Qf E L O
  obtain ⟨h1, h2⟩ := L.2.2 _ _ hl
  exact lv_lload_n E.1.1 E.1.2.1 hd rfl h2 (k p l e s m args below meth c D cs ad H locs la Qf E L ⟨h1, O⟩)
theorem q_lload {M : q_M} {sh : q_H} {pc n : Nat} {ls : List (Option q_V)} {st : List q_V} {σ : q_S} {Q : Option q_V → q_S → Prop} {i : Nat} {x : Int} (hd : decode (q_cc M) pc = .ok (.lload i, 2)) (hn : pc + 2 = n) (hl : ls[i]? = some (some (.inr (.inl x)))) (k : q_WP M sh n ls (.inr (.inl x) :: st) σ Q) : q_WP M sh pc ls st σ Q := by
  subst hn
  intro p l e s m args below meth c D cs ad H locs la Qf E L O
  obtain ⟨h1, h2⟩ := L.2.2 _ _ hl
  exact lv_lload E.1.1 E.1.2.1 hd h2 (k p l e s m args below meth c D cs ad H locs la Qf E L ⟨h1, O⟩)
theorem q_aload_n {M : q_M} {sh : q_H} {pc n : Nat} {ls : List (Option q_V)} {st : List q_V} {σ : q_S} {Q : Option q_V → q_S → Prop} {i : Fin 4} {x : Int} (hd : decode (q_cc M) pc = .ok (.aload_n i, 1)) (hn : pc + 1 = n) (hl : ls[(i : Nat)]? = some (some (.inr (.inr x)))) (k : q_WP M sh n ls (.inr (.inr x) :: st) σ Q) : q_WP M sh pc ls st σ Q := by
  subst hn
  intro p l e s m args below meth c D cs ad H locs la Qf E L O
  obtain ⟨h1, h2⟩ := L.2.2 _ _ hl
  exact lv_aload_n E.1.1 E.1.2.1 hd rfl h2 (k p l e s m args below meth c D cs ad H locs la Qf E L ⟨h1, O⟩)
theorem q_aload {M : q_M} {sh : q_H} {pc n : Nat} {ls : List (Option q_V)} {st : List q_V} {σ : q_S} {Q : Option q_V → q_S → Prop} {i : Nat} {x : Int} (hd : decode (q_cc M) pc = .ok (.aload i, 2)) (hn : pc + 2 = n) (hl : ls[i]? = some (some (.inr (.inr x)))) (k : q_WP M sh n ls (.inr (.inr x) :: st) σ Q) : q_WP M sh pc ls st σ Q := by
  subst hn
  intro p l e s m args below meth c D cs ad H locs la Qf E L O
  obtain ⟨h1, h2⟩ := L.2.2 _ _ hl
  exact lv_aload E.1.1 E.1.2.1 hd h2 (k p l e s m args below meth c D cs ad H locs la Qf E L ⟨h1, O⟩)
/-- the list of locals behind a store of one word at i: by places -/
def q_s1 (ls ls' : List (Option q_V)) (i : Nat) (v : q_V) : Prop := ∀ (j : Nat) (u : q_V), ls'[j]? = some (some u) → (j = i ∧ u = v) ∨ (j ≠ i ∧ ls[j]? = some (some u) ∧ (j + 1 = i → q_wide (some u) = false))
def q_s2 (ls ls' : List (Option q_V)) (i : Nat) (v : q_V) : Prop := ∀ (j : Nat) (u : q_V), ls'[j]? = some (some u) → (j = i ∧ u = v) ∨ (j ≠ i ∧ j ≠ i + 1 ∧ ls[j]? = some (some u) ∧ (j + 1 = i → q_wide (some u) = false))
theorem q_s1_0 {o : Option q_V} {r : List (Option q_V)} {v : q_V} : q_s1 (o :: r) (some v :: r) 0 v := by
  intro j u h
  cases j with
  | zero => simp at h; exact Or.inl ⟨rfl, h.symm⟩
  | succ j => exact Or.inr ⟨by omega, by simpa using h, fun e => by omega⟩
theorem q_s1_1 {a o : Option q_V} {r : List (Option q_V)} {v : q_V} (ha : q_wide a = false) : q_s1 (a :: o :: r) (a :: some v :: r) 1 v := by
  intro j u h
  match j with
  | 0 =>
    simp at h
    subst h
    exact Or.inr ⟨by omega, rfl, fun _ => ha⟩
  | 1 => simp at h; exact Or.inl ⟨rfl, h.symm⟩
  | j + 2 => exact Or.inr ⟨by omega, by simpa using h, fun e => by omega⟩
theorem q_s1_s {a : Option q_V} {ls ls' : List (Option q_V)} {i : Nat} {v : q_V} (h : q_s1 ls ls' (i + 1) v) : q_s1 (a :: ls) (a :: ls') (i + 2) v := by
  intro j u hj
  cases j with
  | zero => exact Or.inr ⟨by omega, by simpa using hj, fun e => by omega⟩
  | succ j =>
    rcases h j u (by simpa using hj) with ⟨h1, h2⟩ | ⟨h1, h2, h3⟩
    · exact Or.inl ⟨by omega, h2⟩
    · exact Or.inr ⟨by omega, by simpa using h2, fun e => h3 (by omega)⟩
theorem q_s2_0 {o o' : Option q_V} {r : List (Option q_V)} {v : q_V} : q_s2 (o :: o' :: r) (some v :: none :: r) 0 v := by
  intro j u h
  match j with
  | 0 => simp at h; exact Or.inl ⟨rfl, h.symm⟩
  | 1 => simp at h
  | j + 2 => exact Or.inr ⟨by omega, by omega, by simpa using h, fun e => by omega⟩
theorem q_s2_1 {a o o' : Option q_V} {r : List (Option q_V)} {v : q_V} (ha : q_wide a = false) : q_s2 (a :: o :: o' :: r) (a :: some v :: none :: r) 1 v := by
  intro j u h
  match j with
  | 0 =>
    simp at h
    subst h
    exact Or.inr ⟨by omega, by omega, rfl, fun _ => ha⟩
  | 1 => simp at h; exact Or.inl ⟨rfl, h.symm⟩
  | 2 => simp at h
  | j + 3 => exact Or.inr ⟨by omega, by omega, by simpa using h, fun e => by omega⟩
theorem q_s2_s {a : Option q_V} {ls ls' : List (Option q_V)} {i : Nat} {v : q_V} (h : q_s2 ls ls' (i + 1) v) : q_s2 (a :: ls) (a :: ls') (i + 2) v := by
  intro j u hj
  cases j with
  | zero => exact Or.inr ⟨by omega, by omega, by simpa using hj, fun e => by omega⟩
  | succ j =>
    rcases h j u (by simpa using hj) with ⟨h1, h2⟩ | ⟨h1, h1', h2, h3⟩
    · exact Or.inl ⟨by omega, h2⟩
    · exact Or.inr ⟨by omega, by omega, by simpa using h2, fun e => h3 (by omega)⟩
theorem q_istore {M : q_M} {sh : q_H} {pc n : Nat} {ls : List (Option q_V)} {st : List q_V} {σ : q_S} {Q : Option q_V → q_S → Prop} {ls' : List (Option q_V)} {i : Nat} {x : Int} (hd : decode (q_cc M) pc = .ok (.istore i, 2)) (hn : pc + 2 = n) (hi : i < q_nL M) (hl : q_s1 ls ls' i (.inl x)) (k : q_WP M sh n ls' st σ Q) : q_WP M sh pc ls (.inl x :: st) σ Q := by
  subst hn
  intro p l e s m args below meth c D cs ad H locs la Qf E L O
  exact lv_istore E.1.1 E.1.2.1 hd L.has hi rfl (fun la' h' => k p l e s m args below meth c D cs ad H locs la' Qf E (L.st1 O.1 h' hl) O.2)
theorem q_istore_n {M : q_M} {sh : q_H} {pc n : Nat} {ls : List (Option q_V)} {st : List q_V} {σ : q_S} {Q : Option q_V → q_S → Prop} {ls' : List (Option q_V)} {i : Fin 4} {x : Int} (hd : decode (q_cc M) pc = .ok (.istore_n i, 1)) (hn : pc + 1 = n) (hi : (i : Nat) < q_nL M) (hl : q_s1 ls ls' (i : Nat) (.inl x)) (k : q_WP M sh n ls' st σ Q) : q_WP M sh pc ls (.inl x :: st) σ Q := by
  subst hn
  intro p l e s m args below meth c D cs ad H locs la Qf E L O
  exact lv_istore_n E.1.1 E.1.2.1 hd rfl L.has hi rfl (fun la' h' => k p l e s m args below meth c D cs ad H locs la' Qf E (L.st1 O.1 h' hl) O.2)
theorem q_lstore {M : q_M} {sh : q_H} {pc n : Nat} {ls : List (Option q_V)} {st : List q_V} {σ : q_S} {Q : Option q_V → q_S → Prop} {ls' : List (Option q_V)} {i : Nat} {x : Int} (hd : decode (q_cc M) pc = .ok (.lstore i, 2)) (hn : pc + 2 = n) (hi : i + 1 < q_nL M) (hl : q_s2 ls ls' i (.inr (.inl x))) (k : q_WP M sh n ls' st σ Q) : q_WP M sh pc ls (.inr (.inl x) :: st) σ Q := by
  subst hn
  intro p l e s m args below meth c D cs ad H locs la Qf E L O
  exact lv_lstore E.1.1 E.1.2.1 hd L.has hi rfl (fun la' h' => k p l e s m args below meth c D cs ad H locs la' Qf E (L.st2 O.1 h' hl) O.2)
theorem q_lstore_n {M : q_M} {sh : q_H} {pc n : Nat} {ls : List (Option q_V)} {st : List q_V} {σ : q_S} {Q : Option q_V → q_S → Prop} {ls' : List (Option q_V)} {i : Fin 4} {x : Int} (hd : decode (q_cc M) pc = .ok (.lstore_n i, 1)) (hn : pc + 1 = n) (hi : (i : Nat) + 1 < q_nL M) (hl : q_s2 ls ls' (i : Nat) (.inr (.inl x))) (k : q_WP M sh n ls' st σ Q) : q_WP M sh pc ls (.inr (.inl x) :: st) σ Q := by
  subst hn
  intro p l e s m args below meth c D cs ad H locs la Qf E L O
  exact lv_lstore_n E.1.1 E.1.2.1 hd rfl L.has hi rfl (fun la' h' => k p l e s m args below meth c D cs ad H locs la' Qf E (L.st2 O.1 h' hl) O.2)
theorem q_astore {M : q_M} {sh : q_H} {pc n : Nat} {ls : List (Option q_V)} {st : List q_V} {σ : q_S} {Q : Option q_V → q_S → Prop} {ls' : List (Option q_V)} {i : Nat} {x : Int} (hd : decode (q_cc M) pc = .ok (.astore i, 2)) (hn : pc + 2 = n) (hi : i < q_nL M) (hl : q_s1 ls ls' i (.inr (.inr x))) (k : q_WP M sh n ls' st σ Q) : q_WP M sh pc ls (.inr (.inr x) :: st) σ Q := by
  subst hn
  intro p l e s m args below meth c D cs ad H locs la Qf E L O
  exact lv_astore E.1.1 E.1.2.1 hd L.has hi rfl (fun la' h' => k p l e s m args below meth c D cs ad H locs la' Qf E (L.st1 O.1 h' hl) O.2)
theorem q_astore_n {M : q_M} {sh : q_H} {pc n : Nat} {ls : List (Option q_V)} {st : List q_V} {σ : q_S} {Q : Option q_V → q_S → Prop} {ls' : List (Option q_V)} {i : Fin 4} {x : Int} (hd : decode (q_cc M) pc = .ok (.astore_n i, 1)) (hn : pc + 1 = n) (hi : (i : Nat) < q_nL M) (hl : q_s1 ls ls' (i : Nat) (.inr (.inr x))) (k : q_WP M sh n ls' st σ Q) : q_WP M sh pc ls (.inr (.inr x) :: st) σ Q := by
  subst hn
  intro p l e s m args below meth c D cs ad H locs la Qf E L O
  exact lv_astore_n E.1.1 E.1.2.1 hd rfl L.has hi rfl (fun la' h' => k p l e s m args below meth c D cs ad H locs la' Qf E (L.st1 O.1 h' hl) O.2)
theorem q_iinc {M : q_M} {sh : q_H} {pc n : Nat} {ls : List (Option q_V)} {st : List q_V} {σ : q_S} {Q : Option q_V → q_S → Prop} {ls' : List (Option q_V)} {i : Nat} {d x y : Int} (hd : decode (q_cc M) pc = .ok (.iinc i d, 3)) (hn : pc + 3 = n) (hi : i < q_nL M) (hx : ls[i]? = some (some (.inl x))) (hy : q_w (x + d) = y) (hl : q_s1 ls ls' i (.inl y)) (k : q_WP M sh n ls' st σ Q) : q_WP M sh pc ls st σ Q := by
  subst hn
  intro p l e s m args below meth c D cs ad H locs la Qf E L O
  obtain ⟨kk, hk⟩ := List.getElem?_of_mem (q_lv_in (ad := ad) (i := 0) hx)
  rw [Nat.zero_add] at hk
  exact lv_iinc E.1.1 E.1.2.1 hd L.has hk (v := Int32.ofInt y) (by rw [← hy, q_ow, Int32.ofInt_add]) hi rfl (fun la' h' => k p l e s m args below meth c D cs ad H locs la' Qf E (L.st1 (v := .inl y) (by rw [← hy]; exact q_w_in _) h' hl) O)
theorem q_iadd {M : q_M} {sh : q_H} {pc n : Nat} {ls : List (Option q_V)} {st : List q_V} {σ : q_S} {Q : Option q_V → q_S → Prop} {x y : Int} (hd : decode (q_cc M) pc = .ok (.iadd, 1)) (hn : pc + 1 = n) (k : q_WP M sh n ls (.inl (q_w (x + y)) :: st) σ Q) : q_WP M sh pc ls (.inl y :: .inl x :: st) σ Q := by
  subst hn
  intro p l e s m args below meth c D cs ad H locs la Qf E L O
  have k' := k p l e s m args below meth c D cs ad H locs la Qf E L ⟨q_w_in _, O.2.2⟩
  refine lv_iadd E.1.1 E.1.2.1 hd ?_
  have e0 : Int32.ofInt x + Int32.ofInt y = Int32.ofInt (q_w (x + y)) := by rw [q_ow, Int32.ofInt_add]
  rw [e0]
  exact k'
theorem q_isub {M : q_M} {sh : q_H} {pc n : Nat} {ls : List (Option q_V)} {st : List q_V} {σ : q_S} {Q : Option q_V → q_S → Prop} {x y : Int} (hd : decode (q_cc M) pc = .ok (.isub, 1)) (hn : pc + 1 = n) (k : q_WP M sh n ls (.inl (q_w (x - y)) :: st) σ Q) : q_WP M sh pc ls (.inl y :: .inl x :: st) σ Q := by
  subst hn
  intro p l e s m args below meth c D cs ad H locs la Qf E L O
  have k' := k p l e s m args below meth c D cs ad H locs la Qf E L ⟨q_w_in _, O.2.2⟩
  refine lv_isub E.1.1 E.1.2.1 hd ?_
  have e0 : Int32.ofInt x - Int32.ofInt y = Int32.ofInt (q_w (x - y)) := by rw [q_ow, Int32.ofInt_sub]
  rw [e0]
  exact k'
theorem q_imul {M : q_M} {sh : q_H} {pc n : Nat} {ls : List (Option q_V)} {st : List q_V} {σ : q_S} {Q : Option q_V → q_S → Prop} {x y : Int} (hd : decode (q_cc M) pc = .ok (.imul, 1)) (hn : pc + 1 = n) (k : q_WP M sh n ls (.inl (q_w (x * y)) :: st) σ Q) : q_WP M sh pc ls (.inl y :: .inl x :: st) σ Q := by
  subst hn
  intro p l e s m args below meth c D cs ad H locs la Qf E L O
  have k' := k p l e s m args below meth c D cs ad H locs la Qf E L ⟨q_w_in _, O.2.2⟩
  refine lv_imul E.1.1 E.1.2.1 hd ?_
  have e0 : Int32.ofInt x * Int32.ofInt y = Int32.ofInt (q_w (x * y)) := by rw [q_ow, Int32.ofInt_mul]
  rw [e0]
  exact k'
theorem q_iand {M : q_M} {sh : q_H} {pc n : Nat} {ls : List (Option q_V)} {st : List q_V} {σ : q_S} {Q : Option q_V → q_S → Prop} {x y : Int} (hd : decode (q_cc M) pc = .ok (.iand, 1)) (hn : pc + 1 = n) (k : q_WP M sh n ls (.inl (q_and x y) :: st) σ Q) : q_WP M sh pc ls (.inl y :: .inl x :: st) σ Q := by
  subst hn
  intro p l e s m args below meth c D cs ad H locs la Qf E L O
  have k' := k p l e s m args below meth c D cs ad H locs la Qf E L ⟨q_in32 _, O.2.2⟩
  refine lv_iand E.1.1 E.1.2.1 hd ?_
  have e0 : Int32.ofInt x &&& Int32.ofInt y = Int32.ofInt (q_and x y) := (Int32.ofInt_toInt _).symm
  rw [e0]
  exact k'
theorem q_ior {M : q_M} {sh : q_H} {pc n : Nat} {ls : List (Option q_V)} {st : List q_V} {σ : q_S} {Q : Option q_V → q_S → Prop} {x y : Int} (hd : decode (q_cc M) pc = .ok (.ior, 1)) (hn : pc + 1 = n) (k : q_WP M sh n ls (.inl (q_or x y) :: st) σ Q) : q_WP M sh pc ls (.inl y :: .inl x :: st) σ Q := by
  subst hn
  intro p l e s m args below meth c D cs ad H locs la Qf E L O
  have k' := k p l e s m args below meth c D cs ad H locs la Qf E L ⟨q_in32 _, O.2.2⟩
  refine lv_ior E.1.1 E.1.2.1 hd ?_
  have e0 : Int32.ofInt x ||| Int32.ofInt y = Int32.ofInt (q_or x y) := (Int32.ofInt_toInt _).symm
  rw [e0]
  exact k'
theorem q_ishl {M : q_M} {sh : q_H} {pc n : Nat} {ls : List (Option q_V)} {st : List q_V} {σ : q_S} {Q : Option q_V → q_S → Prop} {x y : Int} (hd : decode (q_cc M) pc = .ok (.ishl, 1)) (hn : pc + 1 = n) (k : q_WP M sh n ls (.inl (q_shl x y) :: st) σ Q) : q_WP M sh pc ls (.inl y :: .inl x :: st) σ Q := by
  subst hn
  intro p l e s m args below meth c D cs ad H locs la Qf E L O
  have k' := k p l e s m args below meth c D cs ad H locs la Qf E L ⟨q_in32 _, O.2.2⟩
  refine lv_ishl E.1.1 E.1.2.1 hd ?_
  have e0 : Int32.ofInt x <<< (Int32.ofInt y &&& 31) = Int32.ofInt (q_shl x y) := (Int32.ofInt_toInt _).symm
  rw [e0]
  exact k'
theorem q_ishr {M : q_M} {sh : q_H} {pc n : Nat} {ls : List (Option q_V)} {st : List q_V} {σ : q_S} {Q : Option q_V → q_S → Prop} {x y : Int} (hd : decode (q_cc M) pc = .ok (.ishr, 1)) (hn : pc + 1 = n) (k : q_WP M sh n ls (.inl (q_shr x y) :: st) σ Q) : q_WP M sh pc ls (.inl y :: .inl x :: st) σ Q := by
  subst hn
  intro p l e s m args below meth c D cs ad H locs la Qf E L O
  have k' := k p l e s m args below meth c D cs ad H locs la Qf E L ⟨q_in32 _, O.2.2⟩
  refine lv_ishr E.1.1 E.1.2.1 hd ?_
  have e0 : Int32.ofInt x >>> (Int32.ofInt y &&& 31) = Int32.ofInt (q_shr x y) := (Int32.ofInt_toInt _).symm
  rw [e0]
  exact k'
theorem q_idiv {M : q_M} {sh : q_H} {pc n : Nat} {ls : List (Option q_V)} {st : List q_V} {σ : q_S} {Q : Option q_V → q_S → Prop} {x y : Int} (hd : decode (q_cc M) pc = .ok (.idiv, 1)) (hn : pc + 1 = n) (hy : y ≠ 0) (k : q_WP M sh n ls (.inl (q_w (x.tdiv y)) :: st) σ Q) : q_WP M sh pc ls (.inl y :: .inl x :: st) σ Q := by
  subst hn
  intro p l e s m args below meth c D cs ad H locs la Qf E L O
  have k' := k p l e s m args below meth c D cs ad H locs la Qf E L ⟨q_w_in _, O.2.2⟩
  refine lv_idiv E.1.1 E.1.2.1 hd (fun h => hy ((q_eq O.1 q_0).mp h)) ?_
  have e0 : Int32.ofInt x / Int32.ofInt y = Int32.ofInt (q_w (x.tdiv y)) := q_div32 O.2.1 O.1
  rw [e0]
  exact k'
theorem q_irem {M : q_M} {sh : q_H} {pc n : Nat} {ls : List (Option q_V)} {st : List q_V} {σ : q_S} {Q : Option q_V → q_S → Prop} {x y : Int} (hd : decode (q_cc M) pc = .ok (.irem, 1)) (hn : pc + 1 = n) (hy : y ≠ 0) (k : q_WP M sh n ls (.inl (x.tmod y) :: st) σ Q) : q_WP M sh pc ls (.inl y :: .inl x :: st) σ Q := by
  subst hn
  intro p l e s m args below meth c D cs ad H locs la Qf E L O
  have k' := k p l e s m args below meth c D cs ad H locs la Qf E L ⟨q_tmod_in O.2.1, O.2.2⟩
  refine lv_irem E.1.1 E.1.2.1 hd (fun h => hy ((q_eq O.1 q_0).mp h)) ?_
  have e0 : Int32.ofInt x - Int32.ofInt x / Int32.ofInt y * Int32.ofInt y = Int32.ofInt (x.tmod y) := q_rem32 O.2.1 O.1
  rw [e0]
  exact k'
theorem q_ladd {M : q_M} {sh : q_H} {pc n : Nat} {ls : List (Option q_V)} {st : List q_V} {σ : q_S} {Q : Option q_V → q_S → Prop} {x y : Int} (hd : decode (q_cc M) pc = .ok (.ladd, 1)) (hn : pc + 1 = n) (k : q_WP M sh n ls (.inr (.inl (q_W (x + y))) :: st) σ Q) : q_WP M sh pc ls (.inr (.inl y) :: .inr (.inl x) :: st) σ Q := by
  subst hn
  intro p l e s m args below meth c D cs ad H locs la Qf E L O
  have k' := k p l e s m args below meth c D cs ad H locs la Qf E L ⟨q_W_in _, O.2.2⟩
  refine lv_ladd E.1.1 E.1.2.1 hd ?_
  have e0 : Int64.ofInt x + Int64.ofInt y = Int64.ofInt (q_W (x + y)) := by rw [q_oW, Int64.ofInt_add]
  rw [e0]
  exact k'
theorem q_lsub {M : q_M} {sh : q_H} {pc n : Nat} {ls : List (Option q_V)} {st : List q_V} {σ : q_S} {Q : Option q_V → q_S → Prop} {x y : Int} (hd : decode (q_cc M) pc = .ok (.lsub, 1)) (hn : pc + 1 = n) (k : q_WP M sh n ls (.inr (.inl (q_W (x - y))) :: st) σ Q) : q_WP M sh pc ls (.inr (.inl y) :: .inr (.inl x) :: st) σ Q := by
  subst hn
  intro p l e s m args below meth c D cs ad H locs la Qf E L O
  have k' := k p l e s m args below meth c D cs ad H locs la Qf E L ⟨q_W_in _, O.2.2⟩
  refine lv_lsub E.1.1 E.1.2.1 hd ?_
  have e0 : Int64.ofInt x - Int64.ofInt y = Int64.ofInt (q_W (x - y)) := by rw [q_oW, Int64.ofInt_sub]
  rw [e0]
  exact k'
theorem q_lmul {M : q_M} {sh : q_H} {pc n : Nat} {ls : List (Option q_V)} {st : List q_V} {σ : q_S} {Q : Option q_V → q_S → Prop} {x y : Int} (hd : decode (q_cc M) pc = .ok (.lmul, 1)) (hn : pc + 1 = n) (k : q_WP M sh n ls (.inr (.inl (q_W (x * y))) :: st) σ Q) : q_WP M sh pc ls (.inr (.inl y) :: .inr (.inl x) :: st) σ Q := by
  subst hn
  intro p l e s m args below meth c D cs ad H locs la Qf E L O
  have k' := k p l e s m args below meth c D cs ad H locs la Qf E L ⟨q_W_in _, O.2.2⟩
  refine lv_lmul E.1.1 E.1.2.1 hd ?_
  have e0 : Int64.ofInt x * Int64.ofInt y = Int64.ofInt (q_W (x * y)) := by rw [q_oW, Int64.ofInt_mul]
  rw [e0]
  exact k'
theorem q_land {M : q_M} {sh : q_H} {pc n : Nat} {ls : List (Option q_V)} {st : List q_V} {σ : q_S} {Q : Option q_V → q_S → Prop} {x y : Int} (hd : decode (q_cc M) pc = .ok (.land, 1)) (hn : pc + 1 = n) (k : q_WP M sh n ls (.inr (.inl (q_Land x y)) :: st) σ Q) : q_WP M sh pc ls (.inr (.inl y) :: .inr (.inl x) :: st) σ Q := by
  subst hn
  intro p l e s m args below meth c D cs ad H locs la Qf E L O
  have k' := k p l e s m args below meth c D cs ad H locs la Qf E L ⟨q_in64 _, O.2.2⟩
  refine lv_land E.1.1 E.1.2.1 hd ?_
  have e0 : Int64.ofInt x &&& Int64.ofInt y = Int64.ofInt (q_Land x y) := (Int64.ofInt_toInt _).symm
  rw [e0]
  exact k'
theorem q_lor {M : q_M} {sh : q_H} {pc n : Nat} {ls : List (Option q_V)} {st : List q_V} {σ : q_S} {Q : Option q_V → q_S → Prop} {x y : Int} (hd : decode (q_cc M) pc = .ok (.lor, 1)) (hn : pc + 1 = n) (k : q_WP M sh n ls (.inr (.inl (q_Lor x y)) :: st) σ Q) : q_WP M sh pc ls (.inr (.inl y) :: .inr (.inl x) :: st) σ Q := by
  subst hn
  intro p l e s m args below meth c D cs ad H locs la Qf E L O
  have k' := k p l e s m args below meth c D cs ad H locs la Qf E L ⟨q_in64 _, O.2.2⟩
  refine lv_lor E.1.1 E.1.2.1 hd ?_
  have e0 : Int64.ofInt x ||| Int64.ofInt y = Int64.ofInt (q_Lor x y) := (Int64.ofInt_toInt _).symm
  rw [e0]
  exact k'
theorem q_ldiv {M : q_M} {sh : q_H} {pc n : Nat} {ls : List (Option q_V)} {st : List q_V} {σ : q_S} {Q : Option q_V → q_S → Prop} {x y : Int} (hd : decode (q_cc M) pc = .ok (.ldiv, 1)) (hn : pc + 1 = n) (hy : y ≠ 0) (k : q_WP M sh n ls (.inr (.inl (q_W (x.tdiv y))) :: st) σ Q) : q_WP M sh pc ls (.inr (.inl y) :: .inr (.inl x) :: st) σ Q := by
  subst hn
  intro p l e s m args below meth c D cs ad H locs la Qf E L O
  have k' := k p l e s m args below meth c D cs ad H locs la Qf E L ⟨q_W_in _, O.2.2⟩
  refine lv_ldiv E.1.1 E.1.2.1 hd (fun h => hy ((q_eq64 O.1 (q_i64_32 q_0)).mp h)) ?_
  have e0 : Int64.ofInt x / Int64.ofInt y = Int64.ofInt (q_W (x.tdiv y)) := q_div64 O.2.1 O.1
  rw [e0]
  exact k'
theorem q_lrem {M : q_M} {sh : q_H} {pc n : Nat} {ls : List (Option q_V)} {st : List q_V} {σ : q_S} {Q : Option q_V → q_S → Prop} {x y : Int} (hd : decode (q_cc M) pc = .ok (.lrem, 1)) (hn : pc + 1 = n) (hy : y ≠ 0) (k : q_WP M sh n ls (.inr (.inl (x.tmod y)) :: st) σ Q) : q_WP M sh pc ls (.inr (.inl y) :: .inr (.inl x) :: st) σ Q := by
  subst hn
  intro p l e s m args below meth c D cs ad H locs la Qf E L O
  have k' := k p l e s m args below meth c D cs ad H locs la Qf E L ⟨q_tmod_in64 O.2.1, O.2.2⟩
  refine lv_lrem E.1.1 E.1.2.1 hd (fun h => hy ((q_eq64 O.1 (q_i64_32 q_0)).mp h)) ?_
  have e0 : Int64.ofInt x - Int64.ofInt x / Int64.ofInt y * Int64.ofInt y = Int64.ofInt (x.tmod y) := q_rem64 O.2.1 O.1
  rw [e0]
  exact k'
theorem q_lshl {M : q_M} {sh : q_H} {pc n : Nat} {ls : List (Option q_V)} {st : List q_V} {σ : q_S} {Q : Option q_V → q_S → Prop} {x y : Int} (hd : decode (q_cc M) pc = .ok (.lshl, 1)) (hn : pc + 1 = n) (k : q_WP M sh n ls (.inr (.inl (q_Lshl x y)) :: st) σ Q) : q_WP M sh pc ls (.inl y :: .inr (.inl x) :: st) σ Q := by
  subst hn
  intro p l e s m args below meth c D cs ad H locs la Qf E L O
  have k' := k p l e s m args below meth c D cs ad H locs la Qf E L ⟨q_in64 _, O.2.2⟩
  exact lv_lshl E.1.1 E.1.2.1 hd (Int64.ofInt_toInt _).symm k'
theorem q_ineg {M : q_M} {sh : q_H} {pc n : Nat} {ls : List (Option q_V)} {st : List q_V} {σ : q_S} {Q : Option q_V → q_S → Prop} {x : Int} (hd : decode (q_cc M) pc = .ok (.ineg, 1)) (hn : pc + 1 = n) (k : q_WP M sh n ls (.inl (q_w (-x)) :: st) σ Q) : q_WP M sh pc ls (.inl x :: st) σ Q := by
  subst hn
  intro p l e s m args below meth c D cs ad H locs la Qf E L O
  have k' := k p l e s m args below meth c D cs ad H locs la Qf E L ⟨q_w_in _, O.2⟩
  refine lv_ineg E.1.1 E.1.2.1 hd ?_
  rw [← Int32.ofInt_neg, ← q_ow]
  exact k'
theorem q_lneg {M : q_M} {sh : q_H} {pc n : Nat} {ls : List (Option q_V)} {st : List q_V} {σ : q_S} {Q : Option q_V → q_S → Prop} {x : Int} (hd : decode (q_cc M) pc = .ok (.lneg, 1)) (hn : pc + 1 = n) (k : q_WP M sh n ls (.inr (.inl (q_W (-x))) :: st) σ Q) : q_WP M sh pc ls (.inr (.inl x) :: st) σ Q := by
  subst hn
  intro p l e s m args below meth c D cs ad H locs la Qf E L O
  have k' := k p l e s m args below meth c D cs ad H locs la Qf E L ⟨q_W_in _, O.2⟩
  refine lv_lneg E.1.1 E.1.2.1 hd ?_
  rw [← Int64.ofInt_neg, ← q_oW]
  exact k'
theorem q_i2l {M : q_M} {sh : q_H} {pc n : Nat} {ls : List (Option q_V)} {st : List q_V} {σ : q_S} {Q : Option q_V → q_S → Prop} {x : Int} (hd : decode (q_cc M) pc = .ok (.i2l, 1)) (hn : pc + 1 = n) (k : q_WP M sh n ls (.inr (.inl x) :: st) σ Q) : q_WP M sh pc ls (.inl x :: st) σ Q := by
  subst hn
  intro p l e s m args below meth c D cs ad H locs la Qf E L O
  have k' := k p l e s m args below meth c D cs ad H locs la Qf E L ⟨q_i64_32 O.1, O.2⟩
  exact lv_i2l E.1.1 E.1.2.1 hd (q_l32 O.1) k'
theorem q_i2b_ {M : q_M} {sh : q_H} {pc n : Nat} {ls : List (Option q_V)} {st : List q_V} {σ : q_S} {Q : Option q_V → q_S → Prop} {x : Int} (hd : decode (q_cc M) pc = .ok (.i2b, 1)) (hn : pc + 1 = n) (k : q_WP M sh n ls (.inl (q_i2b x) :: st) σ Q) : q_WP M sh pc ls (.inl x :: st) σ Q := by
  subst hn
  intro p l e s m args below meth c D cs ad H locs la Qf E L O
  have k' := k p l e s m args below meth c D cs ad H locs la Qf E L ⟨q_in32 _, O.2⟩
  exact lv_i2b E.1.1 E.1.2.1 hd (Int32.ofInt_toInt _).symm k'
theorem q_i2c_ {M : q_M} {sh : q_H} {pc n : Nat} {ls : List (Option q_V)} {st : List q_V} {σ : q_S} {Q : Option q_V → q_S → Prop} {x : Int} (hd : decode (q_cc M) pc = .ok (.i2c, 1)) (hn : pc + 1 = n) (k : q_WP M sh n ls (.inl (q_i2c x) :: st) σ Q) : q_WP M sh pc ls (.inl x :: st) σ Q := by
  subst hn
  intro p l e s m args below meth c D cs ad H locs la Qf E L O
  have k' := k p l e s m args below meth c D cs ad H locs la Qf E L ⟨q_in32 _, O.2⟩
  exact lv_i2c E.1.1 E.1.2.1 hd (Int32.ofInt_toInt _).symm k'
theorem q_lcmp {M : q_M} {sh : q_H} {pc n : Nat} {ls : List (Option q_V)} {st : List q_V} {σ : q_S} {Q : Option q_V → q_S → Prop} {x y : Int} (hd : decode (q_cc M) pc = .ok (.lcmp, 1)) (hn : pc + 1 = n) (k : q_WP M sh n ls (.inl (q_cmp x y) :: st) σ Q) : q_WP M sh pc ls (.inr (.inl y) :: .inr (.inl x) :: st) σ Q := by
  subst hn
  intro p l e s m args below meth c D cs ad H locs la Qf E L O
  have k' := k p l e s m args below meth c D cs ad H locs la Qf E L ⟨q_cmp_in _ _, O.2.2⟩
  refine W.lcmp E.1.1 E.1.2.1 hd ?_
  rw [q_lgc O.2.1 O.1]
  exact k'
theorem q_dup {M : q_M} {sh : q_H} {pc n : Nat} {ls : List (Option q_V)} {st : List q_V} {σ : q_S} {Q : Option q_V → q_S → Prop} {v : q_V} (hd : decode (q_cc M) pc = .ok (.dup, 1)) (hn : pc + 1 = n) (hv : q_wide (some v) = false) (k : q_WP M sh n ls (v :: v :: st) σ Q) : q_WP M sh pc ls (v :: st) σ Q := by
  subst hn
  intro p l e s m args below meth c D cs ad H locs la Qf E L O
  have k' := k p l e s m args below meth c D cs ad H locs la Qf E L ⟨O.1, O⟩
  exact lv_dup E.1.1 E.1.2.1 hd ((lv_cat _).resolve_right (fun h => by rw [q_cat, hv] at h; cases h)) k'
theorem q_dup2 {M : q_M} {sh : q_H} {pc n : Nat} {ls : List (Option q_V)} {st : List q_V} {σ : q_S} {Q : Option q_V → q_S → Prop} {v u : q_V} (hd : decode (q_cc M) pc = .ok (.dup2, 1)) (hn : pc + 1 = n) (hv : q_wide (some v) = false) (hu : q_wide (some u) = false) (k : q_WP M sh n ls (v :: u :: v :: u :: st) σ Q) : q_WP M sh pc ls (v :: u :: st) σ Q := by
  subst hn
  intro p l e s m args below meth c D cs ad H locs la Qf E L O
  have k' := k p l e s m args below meth c D cs ad H locs la Qf E L ⟨O.1, O.2.1, O⟩
  exact lv_dup2_11 E.1.1 E.1.2.1 hd ((lv_cat _).resolve_right (fun h => by rw [q_cat, hv] at h; cases h)) ((lv_cat _).resolve_right (fun h => by rw [q_cat, hu] at h; cases h)) k'
theorem q_pop {M : q_M} {sh : q_H} {pc n : Nat} {ls : List (Option q_V)} {st : List q_V} {σ : q_S} {Q : Option q_V → q_S → Prop} {v : q_V} (hd : decode (q_cc M) pc = .ok (.pop, 1)) (hn : pc + 1 = n) (hv : q_wide (some v) = false) (k : q_WP M sh n ls (st) σ Q) : q_WP M sh pc ls (v :: st) σ Q := by
  subst hn
  intro p l e s m args below meth c D cs ad H locs la Qf E L O
  have k' := k p l e s m args below meth c D cs ad H locs la Qf E L O.2
  exact lv_pop E.1.1 E.1.2.1 hd ((lv_cat _).resolve_right (fun h => by rw [q_cat, hv] at h; cases h)) k'
theorem q_if_eq {M : q_M} {sh : q_H} {pc n : Nat} {ls : List (Option q_V)} {st : List q_V} {σ : q_S} {Q : Option q_V → q_S → Prop} {t : Nat} {off : Int} {x : Int} (hd : decode (q_cc M) pc = .ok (.ifCond .eq off, 3)) (hn : pc + 3 = n) (ht : (pc : Int) + off = (t : Int)) (kt : x = 0 → q_WP M sh t ls st σ Q) (kf : ¬ (x = 0) → q_WP M sh n ls st σ Q) : q_WP M sh pc ls (.inl x :: st) σ Q := by
  subst hn
  intro p l e s m args below meth c D cs ad H locs la Qf E L O
  exact lv_if_eq E.1.1 E.1.2.1 hd ht (fun h => kt ((q_eq O.1 q_0).mp h) p l e s m args below meth c D cs ad H locs la Qf E L O.2) (fun h => kf ((fun h z => h ((q_eq O.1 q_0).mpr z)) h) p l e s m args below meth c D cs ad H locs la Qf E L O.2)
theorem q_icmp_eq {M : q_M} {sh : q_H} {pc n : Nat} {ls : List (Option q_V)} {st : List q_V} {σ : q_S} {Q : Option q_V → q_S → Prop} {t : Nat} {off : Int} {x y : Int} (hd : decode (q_cc M) pc = .ok (.if_icmp .eq off, 3)) (hn : pc + 3 = n) (ht : (pc : Int) + off = (t : Int)) (kt : x = y → q_WP M sh t ls st σ Q) (kf : ¬ (x = y) → q_WP M sh n ls st σ Q) : q_WP M sh pc ls (.inl y :: .inl x :: st) σ Q := by
  subst hn
  intro p l e s m args below meth c D cs ad H locs la Qf E L O
  exact lv_icmp_eq E.1.1 E.1.2.1 hd ht (fun h => kt ((q_eq O.2.1 O.1).mp h) p l e s m args below meth c D cs ad H locs la Qf E L O.2.2) (fun h => kf ((fun h z => h ((q_eq O.2.1 O.1).mpr z)) h) p l e s m args below meth c D cs ad H locs la Qf E L O.2.2)
theorem q_if_ne {M : q_M} {sh : q_H} {pc n : Nat} {ls : List (Option q_V)} {st : List q_V} {σ : q_S} {Q : Option q_V → q_S → Prop} {t : Nat} {off : Int} {x : Int} (hd : decode (q_cc M) pc = .ok (.ifCond .ne off, 3)) (hn : pc + 3 = n) (ht : (pc : Int) + off = (t : Int)) (kt : x ≠ 0 → q_WP M sh t ls st σ Q) (kf : x = 0 → q_WP M sh n ls st σ Q) : q_WP M sh pc ls (.inl x :: st) σ Q := by
  subst hn
  intro p l e s m args below meth c D cs ad H locs la Qf E L O
  exact lv_if_ne E.1.1 E.1.2.1 hd ht (fun h => kt ((fun h => fun z => h ((q_eq O.1 q_0).mpr z)) h) p l e s m args below meth c D cs ad H locs la Qf E L O.2) (fun h => kf ((q_eq O.1 q_0).mp h) p l e s m args below meth c D cs ad H locs la Qf E L O.2)
theorem q_icmp_ne {M : q_M} {sh : q_H} {pc n : Nat} {ls : List (Option q_V)} {st : List q_V} {σ : q_S} {Q : Option q_V → q_S → Prop} {t : Nat} {off : Int} {x y : Int} (hd : decode (q_cc M) pc = .ok (.if_icmp .ne off, 3)) (hn : pc + 3 = n) (ht : (pc : Int) + off = (t : Int)) (kt : x ≠ y → q_WP M sh t ls st σ Q) (kf : x = y → q_WP M sh n ls st σ Q) : q_WP M sh pc ls (.inl y :: .inl x :: st) σ Q := by
  subst hn
  intro p l e s m args below meth c D cs ad H locs la Qf E L O
  exact lv_icmp_ne E.1.1 E.1.2.1 hd ht (fun h => kt ((fun h => fun z => h ((q_eq O.2.1 O.1).mpr z)) h) p l e s m args below meth c D cs ad H locs la Qf E L O.2.2) (fun h => kf ((q_eq O.2.1 O.1).mp h) p l e s m args below meth c D cs ad H locs la Qf E L O.2.2)
theorem q_if_lt {M : q_M} {sh : q_H} {pc n : Nat} {ls : List (Option q_V)} {st : List q_V} {σ : q_S} {Q : Option q_V → q_S → Prop} {t : Nat} {off : Int} {x : Int} (hd : decode (q_cc M) pc = .ok (.ifCond .lt off, 3)) (hn : pc + 3 = n) (ht : (pc : Int) + off = (t : Int)) (kt : x < 0 → q_WP M sh t ls st σ Q) (kf : ¬ (x < 0) → q_WP M sh n ls st σ Q) : q_WP M sh pc ls (.inl x :: st) σ Q := by
  subst hn
  intro p l e s m args below meth c D cs ad H locs la Qf E L O
  exact lv_if_lt E.1.1 E.1.2.1 hd ht (fun h => kt ((q_lt O.1 q_0).mp h) p l e s m args below meth c D cs ad H locs la Qf E L O.2) (fun h => kf ((fun h z => h ((q_lt O.1 q_0).mpr z)) h) p l e s m args below meth c D cs ad H locs la Qf E L O.2)
theorem q_icmp_lt {M : q_M} {sh : q_H} {pc n : Nat} {ls : List (Option q_V)} {st : List q_V} {σ : q_S} {Q : Option q_V → q_S → Prop} {t : Nat} {off : Int} {x y : Int} (hd : decode (q_cc M) pc = .ok (.if_icmp .lt off, 3)) (hn : pc + 3 = n) (ht : (pc : Int) + off = (t : Int)) (kt : x < y → q_WP M sh t ls st σ Q) (kf : ¬ (x < y) → q_WP M sh n ls st σ Q) : q_WP M sh pc ls (.inl y :: .inl x :: st) σ Q := by
  subst hn
  intro p l e s m args below meth c D cs ad H locs la Qf E L O
  exact lv_icmp_lt E.1.1 E.1.2.1 hd ht (fun h => kt ((q_lt O.2.1 O.1).mp h) p l e s m args below meth c D cs ad H locs la Qf E L O.2.2) (fun h => kf ((fun h z => h ((q_lt O.2.1 O.1).mpr z)) h) p l e s m args below meth c D cs ad H locs la Qf E L O.2.2)
theorem q_if_ge {M : q_M} {sh : q_H} {pc n : Nat} {ls : List (Option q_V)} {st : List q_V} {σ : q_S} {Q : Option q_V → q_S → Prop} {t : Nat} {off : Int} {x : Int} (hd : decode (q_cc M) pc = .ok (.ifCond .ge off, 3)) (hn : pc + 3 = n) (ht : (pc : Int) + off = (t : Int)) (kt : 0 ≤ x → q_WP M sh t ls st σ Q) (kf : ¬ (0 ≤ x) → q_WP M sh n ls st σ Q) : q_WP M sh pc ls (.inl x :: st) σ Q := by
  subst hn
  intro p l e s m args below meth c D cs ad H locs la Qf E L O
  exact lv_if_ge E.1.1 E.1.2.1 hd ht (fun h => kt ((q_le q_0 O.1).mp h) p l e s m args below meth c D cs ad H locs la Qf E L O.2) (fun h => kf ((fun h z => h ((q_le q_0 O.1).mpr z)) h) p l e s m args below meth c D cs ad H locs la Qf E L O.2)
theorem q_icmp_ge {M : q_M} {sh : q_H} {pc n : Nat} {ls : List (Option q_V)} {st : List q_V} {σ : q_S} {Q : Option q_V → q_S → Prop} {t : Nat} {off : Int} {x y : Int} (hd : decode (q_cc M) pc = .ok (.if_icmp .ge off, 3)) (hn : pc + 3 = n) (ht : (pc : Int) + off = (t : Int)) (kt : y ≤ x → q_WP M sh t ls st σ Q) (kf : ¬ (y ≤ x) → q_WP M sh n ls st σ Q) : q_WP M sh pc ls (.inl y :: .inl x :: st) σ Q := by
  subst hn
  intro p l e s m args below meth c D cs ad H locs la Qf E L O
  exact lv_icmp_ge E.1.1 E.1.2.1 hd ht (fun h => kt ((q_le O.1 O.2.1).mp h) p l e s m args below meth c D cs ad H locs la Qf E L O.2.2) (fun h => kf ((fun h z => h ((q_le O.1 O.2.1).mpr z)) h) p l e s m args below meth c D cs ad H locs la Qf E L O.2.2)
theorem q_if_gt {M : q_M} {sh : q_H} {pc n : Nat} {ls : List (Option q_V)} {st : List q_V} {σ : q_S} {Q : Option q_V → q_S → Prop} {t : Nat} {off : Int} {x : Int} (hd : decode (q_cc M) pc = .ok (.ifCond .gt off, 3)) (hn : pc + 3 = n) (ht : (pc : Int) + off = (t : Int)) (kt : 0 < x → q_WP M sh t ls st σ Q) (kf : ¬ (0 < x) → q_WP M sh n ls st σ Q) : q_WP M sh pc ls (.inl x :: st) σ Q := by
  subst hn
  intro p l e s m args below meth c D cs ad H locs la Qf E L O
  exact lv_if_gt E.1.1 E.1.2.1 hd ht (fun h => kt ((q_lt q_0 O.1).mp h) p l e s m args below meth c D cs ad H locs la Qf E L O.2) (fun h => kf ((fun h z => h ((q_lt q_0 O.1).mpr z)) h) p l e s m args below meth c D cs ad H locs la Qf E L O.2)
theorem q_icmp_gt {M : q_M} {sh : q_H} {pc n : Nat} {ls : List (Option q_V)} {st : List q_V} {σ : q_S} {Q : Option q_V → q_S → Prop} {t : Nat} {off : Int} {x y : Int} (hd : decode (q_cc M) pc = .ok (.if_icmp .gt off, 3)) (hn : pc + 3 = n) (ht : (pc : Int) + off = (t : Int)) (kt : y < x → q_WP M sh t ls st σ Q) (kf : ¬ (y < x) → q_WP M sh n ls st σ Q) : q_WP M sh pc ls (.inl y :: .inl x :: st) σ Q := by
  subst hn
  intro p l e s m args below meth c D cs ad H locs la Qf E L O
  exact lv_icmp_gt E.1.1 E.1.2.1 hd ht (fun h => kt ((q_lt O.1 O.2.1).mp h) p l e s m args below meth c D cs ad H locs la Qf E L O.2.2) (fun h => kf ((fun h z => h ((q_lt O.1 O.2.1).mpr z)) h) p l e s m args below meth c D cs ad H locs la Qf E L O.2.2)
theorem q_if_le {M : q_M} {sh : q_H} {pc n : Nat} {ls : List (Option q_V)} {st : List q_V} {σ : q_S} {Q : Option q_V → q_S → Prop} {t : Nat} {off : Int} {x : Int} (hd : decode (q_cc M) pc = .ok (.ifCond .le off, 3)) (hn : pc + 3 = n) (ht : (pc : Int) + off = (t : Int)) (kt : x ≤ 0 → q_WP M sh t ls st σ Q) (kf : ¬ (x ≤ 0) → q_WP M sh n ls st σ Q) : q_WP M sh pc ls (.inl x :: st) σ Q := by
  subst hn
  intro p l e s m args below meth c D cs ad H locs la Qf E L O
  exact lv_if_le E.1.1 E.1.2.1 hd ht (fun h => kt ((q_le O.1 q_0).mp h) p l e s m args below meth c D cs ad H locs la Qf E L O.2) (fun h => kf ((fun h z => h ((q_le O.1 q_0).mpr z)) h) p l e s m args below meth c D cs ad H locs la Qf E L O.2)
theorem q_icmp_le {M : q_M} {sh : q_H} {pc n : Nat} {ls : List (Option q_V)} {st : List q_V} {σ : q_S} {Q : Option q_V → q_S → Prop} {t : Nat} {off : Int} {x y : Int} (hd : decode (q_cc M) pc = .ok (.if_icmp .le off, 3)) (hn : pc + 3 = n) (ht : (pc : Int) + off = (t : Int)) (kt : x ≤ y → q_WP M sh t ls st σ Q) (kf : ¬ (x ≤ y) → q_WP M sh n ls st σ Q) : q_WP M sh pc ls (.inl y :: .inl x :: st) σ Q := by
  subst hn
  intro p l e s m args below meth c D cs ad H locs la Qf E L O
  exact lv_icmp_le E.1.1 E.1.2.1 hd ht (fun h => kt ((q_le O.2.1 O.1).mp h) p l e s m args below meth c D cs ad H locs la Qf E L O.2.2) (fun h => kf ((fun h z => h ((q_le O.2.1 O.1).mpr z)) h) p l e s m args below meth c D cs ad H locs la Qf E L O.2.2)
theorem q_goto {M : q_M} {sh : q_H} {pc n : Nat} {ls : List (Option q_V)} {st : List q_V} {σ : q_S} {Q : Option q_V → q_S → Prop} {t : Nat} {off : Int} (hd : decode (q_cc M) pc = .ok (.goto off, 3)) (ht : (pc : Int) + off = (t : Int)) (k : q_WP M sh t ls st σ Q) : q_WP M sh pc ls st σ Q := by
  intro p l e s m args below meth c D cs ad H locs la Qf E L O
  exact lv_goto E.1.1 E.1.2.1 hd ht (k p l e s m args below meth c D cs ad H locs la Qf E L O)
theorem q_ireturn {M : q_M} {sh : q_H} {pc : Nat} {ls : List (Option q_V)} {st : List q_V} {σ : q_S} {Q : Option q_V → q_S → Prop} {x : Int} {ty : FieldType} (hd : decode (q_cc M) pc = .ok (.ireturn, 1)) (ht : q_rt M = some ty) (hx : ∀ _ : q_i32 x, narrow ty (.int (Int32.ofInt x)) = .int (Int32.ofInt x)) (hq : Q (some (.inl x)) σ) : q_WP M sh pc ls [.inl x] σ Q := by
  intro p l e s m args below meth c D cs ad H locs la Qf E L O
  exact E.2.2 (some (.inl x)) σ H locs hq O E.2.1.1 E.2.1.2.1 E.2.1.2.2 pc la (Or.inl ⟨hd, x, rfl, ty, ht, hx O.1⟩)
theorem q_lreturn {M : q_M} {sh : q_H} {pc : Nat} {ls : List (Option q_V)} {st : List q_V} {σ : q_S} {Q : Option q_V → q_S → Prop} {x : Int} (hd : decode (q_cc M) pc = .ok (.lreturn, 1)) (ht : q_rt M = some .long) (hq : Q (some (.inr (.inl x))) σ) : q_WP M sh pc ls [.inr (.inl x)] σ Q := by
  intro p l e s m args below meth c D cs ad H locs la Qf E L O
  exact E.2.2 (some (.inr (.inl x))) σ H locs hq O E.2.1.1 E.2.1.2.1 E.2.1.2.2 pc la (Or.inr (Or.inl ⟨hd, ⟨x, rfl⟩, ht⟩))
theorem q_areturn {M : q_M} {sh : q_H} {pc : Nat} {ls : List (Option q_V)} {st : List q_V} {σ : q_S} {Q : Option q_V → q_S → Prop} {x : Int} {nm : String} (hd : decode (q_cc M) pc = .ok (.areturn, 1)) (ht : q_rt M = some (.object nm)) (hq : Q (some (.inr (.inr x))) σ) : q_WP M sh pc ls [.inr (.inr x)] σ Q := by
  intro p l e s m args below meth c D cs ad H locs la Qf E L O
  exact E.2.2 (some (.inr (.inr x))) σ H locs hq O E.2.1.1 E.2.1.2.1 E.2.1.2.2 pc la (Or.inr (Or.inr (Or.inl ⟨hd, ⟨x, rfl⟩, nm, ht⟩)))
theorem q_return {M : q_M} {sh : q_H} {pc : Nat} {ls : List (Option q_V)} {st : List q_V} {σ : q_S} {Q : Option q_V → q_S → Prop} (hd : decode (q_cc M) pc = .ok (.return_, 1)) (ht : q_rt M = none) (hq : Q none σ) : q_WP M sh pc ls [] σ Q := by
  intro p l e s m args below meth c D cs ad H locs la Qf E L O
  exact E.2.2 none σ H locs hq trivial E.2.1.1 E.2.1.2.1 E.2.1.2.2 pc la (Or.inr (Or.inr (Or.inr ⟨hd, rfl, ht⟩)))
theorem q_WP.imp {M : q_M} {sh : q_H} {pc : Nat} {ls : List (Option q_V)} {st : List q_V} {σ : q_S} {Q Q' : Option q_V → q_S → Prop} (h : q_WP M sh pc ls st σ Q) (hq : ∀ r σ', Q r σ' → Q' r σ') : q_WP M sh pc ls st σ Q' := by
  intro p l e s m args below meth c D cs ad H locs la Qf E L O
  exact h p l e s m args below meth c D cs ad H locs la Qf ⟨E.1, E.2.1, fun r σ' H' locs' h1 => E.2.2 r σ' H' locs' (hq r σ' h1)⟩ L O
