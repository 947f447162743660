theorem q_mem {w : Cond} (i : Nat) (h : lw_tbl[i]? = some w) (hg : goodWord w = true) : w ∈ q_words := List.mem_filter.mpr ⟨List.mem_of_getElem? h, hg⟩
theorem q_memN {w : Cond} (i : Nat) (h : lw_tbl[i]? = some w) (hg : q_isN w = true) : w ∈ q_nw := List.mem_filter.mpr ⟨List.mem_of_getElem? h, hg⟩
theorem q_hw {M : q_M} {args : Array Value} {s : State} (h : ∀ w ∈ q_ws M, w.before args s = true) {w : Cond} (hw : w ∈ q_words) : w.before args s = true := h w (List.mem_cons_of_mem _ hw)
theorem q_uN {s : State} {args : Array Value} (h : q_N s) {w : Cond} (hw : w ∈ q_nw) : w.before args s = true := by
  have h0 := h w hw
  have hn := (List.mem_filter.mp hw).2
  cases w <;> first | (cases hn; done) | exact va_Nw.use rfl h0
/-- a field by the number of its class and its slot, as an instruction of class own names it -/
def q_FL (own : String) (idx ci k : Nat) : Prop := ∃ (C : String) (T : u_T) (N : Nat), vwCl[ci]? = some (C, T, N) ∧ k < N ∧ (∀ w ∈ u_ws C T N, w ∈ q_words) ∧
  (Cond.fieldLink own idx (T k).1 (T k).2.1 (T k).2.2.1 ∈ q_words ∨ ∃ host, Cond.fieldLinkNest own idx (T k).1 (T k).2.1 (T k).2.2.1 host ∈ q_nw)
def q_ft (t : Nat) : FieldType := match t with
  | 0 => .int
  | 1 => .long
  | _ => .boolean
def q_FP (own : String) (idx ci k t : Nat) : Prop := ∃ (C : String) (T : u_T) (N : Nat) (ty0 : Nat → FieldType), vwCl[ci]? = some (C, T, N) ∧ k < N ∧ (∀ w ∈ u_ws C T N, w ∈ q_words) ∧
  (∀ k, k < N → parseFieldDescriptor (T k).2.2.1 = some (ty0 k)) ∧ (∀ a, a < N → ∀ b, b < N → a ≠ b → (T a).2.1 ≠ (T b).2.1) ∧ (T k).2.2.2 = false ∧ parseFieldDescriptor (T k).2.2.1 = some (q_ft t) ∧
  (Cond.fieldLink own idx (T k).1 (T k).2.1 (T k).2.2.1 ∈ q_words ∨ ∃ host, Cond.fieldLinkNest own idx (T k).1 (T k).2.1 (T k).2.2.1 host ∈ q_nw)

theorem q_getI {M : q_M} {sh : q_H} {pc n : Nat} {ls : List (Option q_V)} {st : List q_V} {σ : q_S} {Q : Option q_V → q_S → Prop} {x : Int} {kI : Int} {idx ci k : Nat} {fs : List (Nat ⊕ Int)} {t : Nat} (ht : t ≠ 1) (hd : decode (q_cc M) pc = .ok (.getfield idx, 3)) (hn : pc + 3 = n) (hf : q_FL (q_own M) idx ci k) (hC : q_is sh x (.inl (ci, fs))) (hk : fs[k]? = some (.inl t)) (hkI : (k : Int) = kI) (kk : q_WP M sh n ls (.inl (σ x kI) :: st) σ Q) : q_WP M sh pc ls (.inr (.inr x) :: st) σ Q := by
  subst hn
  intro p l e s m args below meth c D cs ad H locs la Qf E L O
  obtain ⟨n0, hn0, hn1, he⟩ := q_is_at hC (ad := ad) (cs := cs) (σ := σ)
  have hrr := E.2.1.1 n0 hn1
  rw [hn0, hC.2] at hrr
  have hrr := hrr k _ hk
  rw [hkI] at hrr
  have hv := q_flds_i (ad := ad) (f := σ x) (k0 := 0) hk
  rw [Nat.zero_add, if_neg ht, hkI] at hv
  obtain ⟨C, T, N, h1, h2, h3, h4⟩ := hf
  have k' := kk p l e s m args below meth c D cs ad H locs la Qf E L ⟨(q_tr32 ht hrr), O.2⟩
  rcases h4 with h4 | ⟨host, h4⟩
  · exact va_get E.1.1 E.1.2.1 E.1.2.2.2.2.1 (fun w hw => List.mem_cons_of_mem _ (h3 w hw)) E.1.2.2.2.1 E.1.2.2.2.2.2.1 E.2.1.2.1 n0 he h1 k h2 (q_hw E.1.2.2.2.2.1 h4) (fun _ h => h) hv hd k'
  · exact va_getN E.1.1 E.1.2.1 E.1.2.2.2.2.1 (fun w hw => List.mem_cons_of_mem _ (h3 w hw)) E.1.2.2.2.1 E.1.2.2.2.2.2.1 E.2.1.2.1 n0 he h1 k h2 (q_uN E.1.2.2.2.2.2.2.1 h4) (fun _ h => h) hv hd k'
theorem q_getJ {M : q_M} {sh : q_H} {pc n : Nat} {ls : List (Option q_V)} {st : List q_V} {σ : q_S} {Q : Option q_V → q_S → Prop} {x : Int} {kI : Int} {idx ci k : Nat} {fs : List (Nat ⊕ Int)} (hd : decode (q_cc M) pc = .ok (.getfield idx, 3)) (hn : pc + 3 = n) (hf : q_FL (q_own M) idx ci k) (hC : q_is sh x (.inl (ci, fs))) (hk : fs[k]? = some (.inl 1)) (hkI : (k : Int) = kI) (kk : q_WP M sh n ls (.inr (.inl (σ x kI)) :: st) σ Q) : q_WP M sh pc ls (.inr (.inr x) :: st) σ Q := by
  subst hn
  intro p l e s m args below meth c D cs ad H locs la Qf E L O
  obtain ⟨n0, hn0, hn1, he⟩ := q_is_at hC (ad := ad) (cs := cs) (σ := σ)
  have hrr := E.2.1.1 n0 hn1
  rw [hn0, hC.2] at hrr
  have hrr := hrr k _ hk
  rw [hkI] at hrr
  have hv := q_flds_i (ad := ad) (f := σ x) (k0 := 0) hk
  rw [Nat.zero_add, if_pos rfl, hkI] at hv
  obtain ⟨C, T, N, h1, h2, h3, h4⟩ := hf
  have k' := kk p l e s m args below meth c D cs ad H locs la Qf E L ⟨hrr, O.2⟩
  rcases h4 with h4 | ⟨host, h4⟩
  · exact va_get E.1.1 E.1.2.1 E.1.2.2.2.2.1 (fun w hw => List.mem_cons_of_mem _ (h3 w hw)) E.1.2.2.2.1 E.1.2.2.2.2.2.1 E.2.1.2.1 n0 he h1 k h2 (q_hw E.1.2.2.2.2.1 h4) (fun _ h => h) hv hd k'
  · exact va_getN E.1.1 E.1.2.1 E.1.2.2.2.2.1 (fun w hw => List.mem_cons_of_mem _ (h3 w hw)) E.1.2.2.2.1 E.1.2.2.2.2.2.1 E.2.1.2.1 n0 he h1 k h2 (q_uN E.1.2.2.2.2.2.2.1 h4) (fun _ h => h) hv hd k'
theorem q_getR {M : q_M} {sh : q_H} {pc n : Nat} {ls : List (Option q_V)} {st : List q_V} {σ : q_S} {Q : Option q_V → q_S → Prop} {x : Int} {idx ci k : Nat} {fs : List (Nat ⊕ Int)} {y : Int} (hd : decode (q_cc M) pc = .ok (.getfield idx, 3)) (hn : pc + 3 = n) (hf : q_FL (q_own M) idx ci k) (hC : q_is sh x (.inl (ci, fs))) (hk : fs[k]? = some (.inr y)) (kk : q_WP M sh n ls (.inr (.inr y) :: st) σ Q) : q_WP M sh pc ls (.inr (.inr x) :: st) σ Q := by
  subst hn
  intro p l e s m args below meth c D cs ad H locs la Qf E L O
  obtain ⟨n0, hn0, hn1, he⟩ := q_is_at hC (ad := ad) (cs := cs) (σ := σ)
  have hv := q_flds_r (ad := ad) (f := σ x) (k0 := 0) hk
  obtain ⟨C, T, N, h1, h2, h3, h4⟩ := hf
  have k' := kk p l e s m args below meth c D cs ad H locs la Qf E L ⟨trivial, O.2⟩
  rcases h4 with h4 | ⟨host, h4⟩
  · exact va_get E.1.1 E.1.2.1 E.1.2.2.2.2.1 (fun w hw => List.mem_cons_of_mem _ (h3 w hw)) E.1.2.2.2.1 E.1.2.2.2.2.2.1 E.2.1.2.1 n0 he h1 k h2 (q_hw E.1.2.2.2.2.1 h4) (fun _ h => h) hv hd k'
  · exact va_getN E.1.1 E.1.2.1 E.1.2.2.2.2.1 (fun w hw => List.mem_cons_of_mem _ (h3 w hw)) E.1.2.2.2.1 E.1.2.2.2.2.2.1 E.2.1.2.1 n0 he h1 k h2 (q_uN E.1.2.2.2.2.2.2.1 h4) (fun _ h => h) hv hd k'
theorem q_bool {x : Int} (h : 0 ≤ x ∧ x < 2) : x = 0 ∨ x = 1 := by omega
theorem q_nz {x : Int} (h : 0 ≤ x ∧ x < 2) : narrow .boolean (.int (Int32.ofInt x)) = .int (Int32.ofInt x) := by
  rcases q_bool h with rfl | rfl <;> rfl
theorem q_fz {x : Int} (h : 0 ≤ x ∧ x < 2) : fits .boolean (.int (Int32.ofInt x)) = true := by
  rcases q_bool h with rfl | rfl <;> rfl
theorem q_up_set {ad : Int → Nat} {cs : Nat → ClassId} {sh : q_H} {σ : q_S} {x kI v : Int} {n0 k t ci : Nat} {fs : List (Nat ⊕ Int)} {u : Value} (hn0 : (n0 : Int) = x) (hC : sh.2 x = .inl (ci, fs)) (hk : fs[k]? = some (.inl t)) (hkI : (k : Int) = kI) (hu : u = if t = 1 then .long (Int64.ofInt v) else .int (Int32.ofInt v)) :
    (q_wld ad cs sh σ).set n0 (ad x, .inr (ci, (q_flds ad (σ x) 0 fs).set k u)) = q_wld ad cs sh (q_up σ x kI v) := by
  subst hn0
  refine q_wld_set ?_ (fun c' hc' => q_up_o (by omega))
  rw [hC]
  show (Sum.inr (ci, _) : va_E) = .inr (ci, _)
  congr 2
  refine q_flds_set hk ?_ ?_
  · rw [hu, Nat.zero_add, hkI, q_up_s]
  · intro j hj
    rw [q_up_c]
    exact if_neg (by omega)
theorem q_rg_obj {ci : Nat} {fs : List (Nat ⊕ Int)} {f : Int → Int} {k t : Nat} {kI v : Int} (h : q_rg (.inl (ci, fs)) f) (hk : fs[k]? = some (.inl t)) (hkI : (k : Int) = kI) (hv : q_tr t v) : q_rg (.inl (ci, fs)) (fun x' => if x' = kI then v else f x') := by
  intro k' t' hk'
  show q_tr t' (if (k' : Int) = kI then v else f k')
  by_cases e : (k' : Int) = kI
  · rw [if_pos e]
    have : k' = k := by omega
    subst this
    rw [hk] at hk'
    cases hk'
    exact hv
  · rw [if_neg e]
    exact h k' t' hk'

theorem q_putI {M : q_M} {sh : q_H} {pc n : Nat} {ls : List (Option q_V)} {st : List q_V} {σ : q_S} {Q : Option q_V → q_S → Prop} {x v kI : Int} {idx ci k : Nat} {fs : List (Nat ⊕ Int)} (hd : decode (q_cc M) pc = .ok (.putfield idx, 3)) (hn : pc + 3 = n) (hf : q_FP (q_own M) idx ci k 0) (hC : q_is sh x (.inl (ci, fs))) (hk : fs[k]? = some (.inl 0)) (hkI : (k : Int) = kI) (kk : q_WP M sh n ls st (q_up σ x kI v) Q) : q_WP M sh pc ls (.inl v :: .inr (.inr x) :: st) σ Q := by
  subst hn
  intro p l e s m args below meth c D cs ad H locs la Qf E L O
  obtain ⟨n0, hn0, hn1, he⟩ := q_is_at hC (ad := ad) (cs := cs) (σ := σ)
  obtain ⟨C, T, N, ty0, h1, h2, h3, h4, h5, h6, h7, h8⟩ := hf
  have hD := q_D (cs := cs) (sh := sh) σ E.1.2.2.2.2.2.2.2.2
  have hrg : q_rng sh (q_up σ x kI v) := q_rng_up E.2.1.1 (fun n1 e1 e2 => by
    have h := E.2.1.1 n1 e2
    rw [e1, hC.2] at h
    rw [hC.2]
    exact q_rg_obj h hk hkI O.1)
  have hl : k < (q_flds ad (σ x) 0 fs).length := by rw [q_flds_len]; exact (List.getElem?_eq_some_iff.mp hk).1
  have fin : ∀ (H1 : Heap) (locs1 : List Loc), va_P D vwCl ((q_wld ad cs sh σ).set n0 (ad x, .inr (ci, (q_flds ad (σ x) 0 fs).set k (.int (Int32.ofInt v))))) H1 → va_D (q_A ad sh.1) ((q_wld ad cs sh σ).set n0 (ad x, .inr (ci, (q_flds ad (σ x) 0 fs).set k (.int (Int32.ofInt v))))) → va_S (q_A ad sh.1) s.heap H1 locs1 → W p l e (q_rm M) s m args below meth c H1 locs1 0 0 Qf (F0 m (pc + 3) la (st.map (q_cv ad))) := by
    intro H1 locs1 hP1 _ hS1
    rw [q_up_set hn0 hC.2 hk hkI (v := v) (by rfl)] at hP1
    exact kk p l e s m args below meth c D cs ad H1 locs1 la Qf ⟨E.1, ⟨hrg, hP1, hS1⟩, E.2.2⟩ L O.2.2
  rcases h8 with h8 | ⟨host, h8⟩
  · exact va_put E.1.1 E.1.2.1 E.1.2.2.2.2.1 (fun w hw => List.mem_cons_of_mem _ (h3 w hw)) ty0 h4 h5 E.1.2.2.2.1 E.1.2.2.2.2.2.1 E.2.1.2.1 hD E.2.1.2.2 n0 he h1 k h2 (q_hw E.1.2.2.2.2.1 h8) (fun _ h => h) h6 h7 rfl rfl hl hd fin
  · exact va_putN E.1.1 E.1.2.1 E.1.2.2.2.2.1 (fun w hw => List.mem_cons_of_mem _ (h3 w hw)) ty0 h4 h5 E.1.2.2.2.1 E.1.2.2.2.2.2.1 E.2.1.2.1 hD E.2.1.2.2 n0 he h1 k h2 (q_uN E.1.2.2.2.2.2.2.1 h8) (fun _ h => h) h6 h7 rfl rfl hl hd fin
theorem q_putJ {M : q_M} {sh : q_H} {pc n : Nat} {ls : List (Option q_V)} {st : List q_V} {σ : q_S} {Q : Option q_V → q_S → Prop} {x v kI : Int} {idx ci k : Nat} {fs : List (Nat ⊕ Int)} (hd : decode (q_cc M) pc = .ok (.putfield idx, 3)) (hn : pc + 3 = n) (hf : q_FP (q_own M) idx ci k 1) (hC : q_is sh x (.inl (ci, fs))) (hk : fs[k]? = some (.inl 1)) (hkI : (k : Int) = kI) (kk : q_WP M sh n ls st (q_up σ x kI v) Q) : q_WP M sh pc ls (.inr (.inl v) :: .inr (.inr x) :: st) σ Q := by
  subst hn
  intro p l e s m args below meth c D cs ad H locs la Qf E L O
  obtain ⟨n0, hn0, hn1, he⟩ := q_is_at hC (ad := ad) (cs := cs) (σ := σ)
  obtain ⟨C, T, N, ty0, h1, h2, h3, h4, h5, h6, h7, h8⟩ := hf
  have hD := q_D (cs := cs) (sh := sh) σ E.1.2.2.2.2.2.2.2.2
  have hrg : q_rng sh (q_up σ x kI v) := q_rng_up E.2.1.1 (fun n1 e1 e2 => by
    have h := E.2.1.1 n1 e2
    rw [e1, hC.2] at h
    rw [hC.2]
    exact q_rg_obj h hk hkI O.1)
  have hl : k < (q_flds ad (σ x) 0 fs).length := by rw [q_flds_len]; exact (List.getElem?_eq_some_iff.mp hk).1
  have fin : ∀ (H1 : Heap) (locs1 : List Loc), va_P D vwCl ((q_wld ad cs sh σ).set n0 (ad x, .inr (ci, (q_flds ad (σ x) 0 fs).set k (.long (Int64.ofInt v))))) H1 → va_D (q_A ad sh.1) ((q_wld ad cs sh σ).set n0 (ad x, .inr (ci, (q_flds ad (σ x) 0 fs).set k (.long (Int64.ofInt v))))) → va_S (q_A ad sh.1) s.heap H1 locs1 → W p l e (q_rm M) s m args below meth c H1 locs1 0 0 Qf (F0 m (pc + 3) la (st.map (q_cv ad))) := by
    intro H1 locs1 hP1 _ hS1
    rw [q_up_set hn0 hC.2 hk hkI (v := v) (by rfl)] at hP1
    exact kk p l e s m args below meth c D cs ad H1 locs1 la Qf ⟨E.1, ⟨hrg, hP1, hS1⟩, E.2.2⟩ L O.2.2
  rcases h8 with h8 | ⟨host, h8⟩
  · exact va_put E.1.1 E.1.2.1 E.1.2.2.2.2.1 (fun w hw => List.mem_cons_of_mem _ (h3 w hw)) ty0 h4 h5 E.1.2.2.2.1 E.1.2.2.2.2.2.1 E.2.1.2.1 hD E.2.1.2.2 n0 he h1 k h2 (q_hw E.1.2.2.2.2.1 h8) (fun _ h => h) h6 h7 rfl rfl hl hd fin
  · exact va_putN E.1.1 E.1.2.1 E.1.2.2.2.2.1 (fun w hw => List.mem_cons_of_mem _ (h3 w hw)) ty0 h4 h5 E.1.2.2.2.1 E.1.2.2.2.2.2.1 E.2.1.2.1 hD E.2.1.2.2 n0 he h1 k h2 (q_uN E.1.2.2.2.2.2.2.1 h8) (fun _ h => h) h6 h7 rfl rfl hl hd fin
theorem q_putZ {M : q_M} {sh : q_H} {pc n : Nat} {ls : List (Option q_V)} {st : List q_V} {σ : q_S} {Q : Option q_V → q_S → Prop} {x v kI : Int} {idx ci k : Nat} {fs : List (Nat ⊕ Int)} (hd : decode (q_cc M) pc = .ok (.putfield idx, 3)) (hn : pc + 3 = n) (hf : q_FP (q_own M) idx ci k 4) (hC : q_is sh x (.inl (ci, fs))) (hk : fs[k]? = some (.inl 4)) (hkI : (k : Int) = kI) (hz : 0 ≤ v ∧ v < 2) (kk : q_WP M sh n ls st (q_up σ x kI v) Q) : q_WP M sh pc ls (.inl v :: .inr (.inr x) :: st) σ Q := by
  subst hn
  intro p l e s m args below meth c D cs ad H locs la Qf E L O
  obtain ⟨n0, hn0, hn1, he⟩ := q_is_at hC (ad := ad) (cs := cs) (σ := σ)
  obtain ⟨C, T, N, ty0, h1, h2, h3, h4, h5, h6, h7, h8⟩ := hf
  have hD := q_D (cs := cs) (sh := sh) σ E.1.2.2.2.2.2.2.2.2
  have hrg : q_rng sh (q_up σ x kI v) := q_rng_up E.2.1.1 (fun n1 e1 e2 => by
    have h := E.2.1.1 n1 e2
    rw [e1, hC.2] at h
    rw [hC.2]
    exact q_rg_obj h hk hkI hz)
  have hl : k < (q_flds ad (σ x) 0 fs).length := by rw [q_flds_len]; exact (List.getElem?_eq_some_iff.mp hk).1
  have fin : ∀ (H1 : Heap) (locs1 : List Loc), va_P D vwCl ((q_wld ad cs sh σ).set n0 (ad x, .inr (ci, (q_flds ad (σ x) 0 fs).set k (.int (Int32.ofInt v))))) H1 → va_D (q_A ad sh.1) ((q_wld ad cs sh σ).set n0 (ad x, .inr (ci, (q_flds ad (σ x) 0 fs).set k (.int (Int32.ofInt v))))) → va_S (q_A ad sh.1) s.heap H1 locs1 → W p l e (q_rm M) s m args below meth c H1 locs1 0 0 Qf (F0 m (pc + 3) la (st.map (q_cv ad))) := by
    intro H1 locs1 hP1 _ hS1
    rw [q_up_set hn0 hC.2 hk hkI (v := v) (by rfl)] at hP1
    exact kk p l e s m args below meth c D cs ad H1 locs1 la Qf ⟨E.1, ⟨hrg, hP1, hS1⟩, E.2.2⟩ L O.2.2
  rcases h8 with h8 | ⟨host, h8⟩
  · exact va_put E.1.1 E.1.2.1 E.1.2.2.2.2.1 (fun w hw => List.mem_cons_of_mem _ (h3 w hw)) ty0 h4 h5 E.1.2.2.2.1 E.1.2.2.2.2.2.1 E.2.1.2.1 hD E.2.1.2.2 n0 he h1 k h2 (q_hw E.1.2.2.2.2.1 h8) (fun _ h => h) h6 h7 (q_nz hz) (q_fz hz) hl hd fin
  · exact va_putN E.1.1 E.1.2.1 E.1.2.2.2.2.1 (fun w hw => List.mem_cons_of_mem _ (h3 w hw)) ty0 h4 h5 E.1.2.2.2.1 E.1.2.2.2.2.2.1 E.2.1.2.1 hD E.2.1.2.2 n0 he h1 k h2 (q_uN E.1.2.2.2.2.2.2.1 h8) (fun _ h => h) h6 h7 (q_nz hz) (q_fz hz) hl hd fin
theorem q_iaload {M : q_M} {sh : q_H} {pc n : Nat} {ls : List (Option q_V)} {st : List q_V} {σ : q_S} {Q : Option q_V → q_S → Prop} {x i : Int} {N : Nat} (hd : decode (q_cc M) pc = .ok (.iaload, 1)) (hn : pc + 1 = n) (hC : q_is sh x (.inr (.inl (0, N)))) (hi : 0 ≤ i ∧ i < (N : Int)) (kk : q_WP M sh n ls (.inl (σ x i) :: st) σ Q) : q_WP M sh pc ls (.inl i :: .inr (.inr x) :: st) σ Q := by
  subst hn
  intro p l e s m args below meth c D cs ad H locs la Qf E L O
  obtain ⟨n0, hn0, hn1, he⟩ := q_is_at hC (ad := ad) (cs := cs) (σ := σ)
  obtain ⟨hin, hcl⟩ := q_idx O.1 hi
  have hr := E.2.1.1 n0 hn1
  rw [hn0, hC.2] at hr
  have hr := hr i
  have k' := kk p l e s m args below meth c D cs ad H locs la Qf E L ⟨hr, O.2.2⟩
  refine va_iald E.1.1 E.1.2.1 E.1.2.2.2.2.2.1 E.2.1.2.1 n0 0 he rfl hin hd ?_
  show W _ _ _ _ _ _ _ _ _ _ _ _ _ _ _ (F0 m (pc + 1) la (.int (Int32.ofInt (σ x ((Int32.ofInt i).toNatClampNeg : Int))) :: st.map (q_cv ad)))
  rw [hcl]
  exact k'
theorem q_baload {M : q_M} {sh : q_H} {pc n : Nat} {ls : List (Option q_V)} {st : List q_V} {σ : q_S} {Q : Option q_V → q_S → Prop} {x i : Int} {N : Nat} (hd : decode (q_cc M) pc = .ok (.baload, 1)) (hn : pc + 1 = n) (hC : q_is sh x (.inr (.inl (2, N)))) (hi : 0 ≤ i ∧ i < (N : Int)) (kk : q_WP M sh n ls (.inl (σ x i) :: st) σ Q) : q_WP M sh pc ls (.inl i :: .inr (.inr x) :: st) σ Q := by
  subst hn
  intro p l e s m args below meth c D cs ad H locs la Qf E L O
  obtain ⟨n0, hn0, hn1, he⟩ := q_is_at hC (ad := ad) (cs := cs) (σ := σ)
  obtain ⟨hin, hcl⟩ := q_idx O.1 hi
  have hr := E.2.1.1 n0 hn1
  rw [hn0, hC.2] at hr
  have hr := hr i
  have k' := kk p l e s m args below meth c D cs ad H locs la Qf E L ⟨(q_tr32 (t := 2) (by decide) hr), O.2.2⟩
  refine va_bald E.1.1 E.1.2.1 E.1.2.2.2.2.2.1 E.2.1.2.1 n0 2 he rfl hin hd ?_
  show W _ _ _ _ _ _ _ _ _ _ _ _ _ _ _ (F0 m (pc + 1) la (.int (Int32.ofInt (σ x ((Int32.ofInt i).toNatClampNeg : Int))) :: st.map (q_cv ad)))
  rw [hcl]
  exact k'
theorem q_caload {M : q_M} {sh : q_H} {pc n : Nat} {ls : List (Option q_V)} {st : List q_V} {σ : q_S} {Q : Option q_V → q_S → Prop} {x i : Int} {N : Nat} (hd : decode (q_cc M) pc = .ok (.caload, 1)) (hn : pc + 1 = n) (hC : q_is sh x (.inr (.inl (3, N)))) (hi : 0 ≤ i ∧ i < (N : Int)) (kk : q_WP M sh n ls (.inl (σ x i) :: st) σ Q) : q_WP M sh pc ls (.inl i :: .inr (.inr x) :: st) σ Q := by
  subst hn
  intro p l e s m args below meth c D cs ad H locs la Qf E L O
  obtain ⟨n0, hn0, hn1, he⟩ := q_is_at hC (ad := ad) (cs := cs) (σ := σ)
  obtain ⟨hin, hcl⟩ := q_idx O.1 hi
  have hr := E.2.1.1 n0 hn1
  rw [hn0, hC.2] at hr
  have hr := hr i
  have k' := kk p l e s m args below meth c D cs ad H locs la Qf E L ⟨(q_tr32 (t := 3) (by decide) hr), O.2.2⟩
  refine va_cald E.1.1 E.1.2.1 E.1.2.2.2.2.2.1 E.2.1.2.1 n0 3 he rfl hin hd ?_
  show W _ _ _ _ _ _ _ _ _ _ _ _ _ _ _ (F0 m (pc + 1) la (.int (Int32.ofInt (σ x ((Int32.ofInt i).toNatClampNeg : Int))) :: st.map (q_cv ad)))
  rw [hcl]
  exact k'
theorem q_laload {M : q_M} {sh : q_H} {pc n : Nat} {ls : List (Option q_V)} {st : List q_V} {σ : q_S} {Q : Option q_V → q_S → Prop} {x i : Int} {N : Nat} (hd : decode (q_cc M) pc = .ok (.laload, 1)) (hn : pc + 1 = n) (hC : q_is sh x (.inr (.inl (1, N)))) (hi : 0 ≤ i ∧ i < (N : Int)) (kk : q_WP M sh n ls (.inr (.inl (σ x i)) :: st) σ Q) : q_WP M sh pc ls (.inl i :: .inr (.inr x) :: st) σ Q := by
  subst hn
  intro p l e s m args below meth c D cs ad H locs la Qf E L O
  obtain ⟨n0, hn0, hn1, he⟩ := q_is_at hC (ad := ad) (cs := cs) (σ := σ)
  obtain ⟨hin, hcl⟩ := q_idx O.1 hi
  have hr := E.2.1.1 n0 hn1
  rw [hn0, hC.2] at hr
  have hr := hr i
  have k' := kk p l e s m args below meth c D cs ad H locs la Qf E L ⟨hr, O.2.2⟩
  refine va_lald E.1.1 E.1.2.1 E.1.2.2.2.2.2.1 E.2.1.2.1 n0 1 he rfl hin hd ?_
  show W _ _ _ _ _ _ _ _ _ _ _ _ _ _ _ (F0 m (pc + 1) la (.long (Int64.ofInt (σ x ((Int32.ofInt i).toNatClampNeg : Int))) :: st.map (q_cv ad)))
  rw [hcl]
  exact k'
theorem q_iastore {M : q_M} {sh : q_H} {pc n : Nat} {ls : List (Option q_V)} {st : List q_V} {σ : q_S} {Q : Option q_V → q_S → Prop} {x i v : Int} {N : Nat} (hd : decode (q_cc M) pc = .ok (.iastore, 1)) (hn : pc + 1 = n) (hC : q_is sh x (.inr (.inl (0, N)))) (hi : 0 ≤ i ∧ i < (N : Int)) (kk : q_WP M sh n ls st (q_up σ x i v) Q) : q_WP M sh pc ls (.inl v :: .inl i :: .inr (.inr x) :: st) σ Q := by
  subst hn
  intro p l e s m args below meth c D cs ad H locs la Qf E L O
  obtain ⟨n0, hn0, hn1, he⟩ := q_is_at hC (ad := ad) (cs := cs) (σ := σ)
  obtain ⟨hin, hcl⟩ := q_idx O.2.1 hi
  have hD := q_D (cs := cs) (sh := sh) σ E.1.2.2.2.2.2.2.2.2
  have hrg : q_rng sh (q_up σ x i v) := q_rng_up E.2.1.1 (fun n1 e1 e2 => by
    have h := E.2.1.1 n1 e2
    rw [e1, hC.2] at h
    rw [hC.2]
    intro k'
    show q_tr 0 (if k' = i then v else σ x k')
    by_cases e : k' = i
    · rw [if_pos e]; exact O.1
    · rw [if_neg e]; exact h k')
  refine va_iast E.1.1 E.1.2.1 E.1.2.2.2.2.2.1 E.2.1.2.1 hD E.2.1.2.2 n0 0 he rfl hin hd (fun H1 locs1 hP1 _ hS1 => ?_)
  have e2 : (q_wld ad cs sh σ).set n0 (ad x, .inl (cs 0, N, .inl (upd (fun j => Int32.ofInt (σ x j)) (Int32.ofInt i).toNatClampNeg (Int32.ofInt v)))) = q_wld ad cs sh (q_up σ x i v) := by
    subst hn0
    refine q_wld_set ?_ (fun c' hc' => q_up_o (by omega))
    rw [hC.2]
    show (Sum.inl (cs 0, N, _) : va_E) = .inl (cs 0, N, .inl _)
    congr 4
    funext j
    show (if j = (Int32.ofInt i).toNatClampNeg then Int32.ofInt v else Int32.ofInt (σ n0 j)) = Int32.ofInt (q_up σ n0 i v n0 j)
    rw [q_up_c]
    by_cases e : (j : Int) = i
    · rw [if_pos (by omega)]
      show _ = Int32.ofInt (if (j : Int) = i then v else _)
      rw [if_pos e]
    · rw [if_neg (by omega)]
      show _ = Int32.ofInt (if (j : Int) = i then v else _)
      rw [if_neg e]
  rw [e2] at hP1
  exact kk p l e s m args below meth c D cs ad H1 locs1 la Qf ⟨E.1, ⟨hrg, hP1, hS1⟩, E.2.2⟩ L O.2.2.2
theorem q_nbyte {v : Int} (hv : -128 ≤ v ∧ v < 128) : vp_nar .byte (Int32.ofInt v) = Int32.ofInt v := by
  rw [vp_nar_byte]
  apply Int32.toInt_inj.mp
  have h : (Int32.ofInt v).toInt = v := q_t32 ⟨by omega, by omega⟩
  rw [Int8.toInt_toInt32, Int32.toInt_toInt8, h]
  exact Int.bmod_eq_of_le (by omega) (by omega)
theorem q_nchar {v : Int} (hv : 0 ≤ v ∧ v < 65536) : vp_nar .char (Int32.ofInt v) = Int32.ofInt v := by
  obtain ⟨n, rfl⟩ := Int.eq_ofNat_of_zero_le hv.1
  have h := (pk_charN (q := n) (by omega)).1
  have e : Int32.ofInt (n : Int) = nI n := rfl
  rw [e]
  unfold vp_nar
  rw [h]
theorem q_bastore {M : q_M} {sh : q_H} {pc n : Nat} {ls : List (Option q_V)} {st : List q_V} {σ : q_S} {Q : Option q_V → q_S → Prop} {x i v : Int} {N : Nat} (hd : decode (q_cc M) pc = .ok (.bastore, 1)) (hn : pc + 1 = n) (hC : q_is sh x (.inr (.inl (2, N)))) (hi : 0 ≤ i ∧ i < (N : Int)) (hv : -128 ≤ v ∧ v < 128) (kk : q_WP M sh n ls st (q_up σ x i v) Q) : q_WP M sh pc ls (.inl v :: .inl i :: .inr (.inr x) :: st) σ Q := by
  subst hn
  intro p l e s m args below meth c D cs ad H locs la Qf E L O
  obtain ⟨n0, hn0, hn1, he⟩ := q_is_at hC (ad := ad) (cs := cs) (σ := σ)
  obtain ⟨hin, hcl⟩ := q_idx O.2.1 hi
  have hD := q_D (cs := cs) (sh := sh) σ E.1.2.2.2.2.2.2.2.2
  have hrg : q_rng sh (q_up σ x i v) := q_rng_up E.2.1.1 (fun n1 e1 e2 => by
    have h := E.2.1.1 n1 e2
    rw [e1, hC.2] at h
    rw [hC.2]
    intro k'
    show q_tr 2 (if k' = i then v else σ x k')
    by_cases e : k' = i
    · rw [if_pos e]; exact hv
    · rw [if_neg e]; exact h k')
  refine va_bast E.1.1 E.1.2.1 E.1.2.2.2.2.2.1 E.2.1.2.1 hD E.2.1.2.2 n0 2 he rfl hin hd (fun H1 locs1 hP1 _ hS1 => ?_)
  have e2 : (q_wld ad cs sh σ).set n0 (ad x, .inl (cs 2, N, .inl (upd (fun j => Int32.ofInt (σ x j)) (Int32.ofInt i).toNatClampNeg (vp_nar .byte (Int32.ofInt v))))) = q_wld ad cs sh (q_up σ x i v) := by
    rw [show vp_nar .byte (Int32.ofInt v) = Int32.ofInt v from q_nbyte hv]
    subst hn0
    refine q_wld_set ?_ (fun c' hc' => q_up_o (by omega))
    rw [hC.2]
    show (Sum.inl (cs 2, N, _) : va_E) = .inl (cs 2, N, .inl _)
    congr 4
    funext j
    show (if j = (Int32.ofInt i).toNatClampNeg then Int32.ofInt v else Int32.ofInt (σ n0 j)) = Int32.ofInt (q_up σ n0 i v n0 j)
    rw [q_up_c]
    by_cases e : (j : Int) = i
    · rw [if_pos (by omega)]
      show _ = Int32.ofInt (if (j : Int) = i then v else _)
      rw [if_pos e]
    · rw [if_neg (by omega)]
      show _ = Int32.ofInt (if (j : Int) = i then v else _)
      rw [if_neg e]
  rw [e2] at hP1
  exact kk p l e s m args below meth c D cs ad H1 locs1 la Qf ⟨E.1, ⟨hrg, hP1, hS1⟩, E.2.2⟩ L O.2.2.2
theorem q_castore {M : q_M} {sh : q_H} {pc n : Nat} {ls : List (Option q_V)} {st : List q_V} {σ : q_S} {Q : Option q_V → q_S → Prop} {x i v : Int} {N : Nat} (hd : decode (q_cc M) pc = .ok (.castore, 1)) (hn : pc + 1 = n) (hC : q_is sh x (.inr (.inl (3, N)))) (hi : 0 ≤ i ∧ i < (N : Int)) (hv : 0 ≤ v ∧ v < 65536) (kk : q_WP M sh n ls st (q_up σ x i v) Q) : q_WP M sh pc ls (.inl v :: .inl i :: .inr (.inr x) :: st) σ Q := by
  subst hn
  intro p l e s m args below meth c D cs ad H locs la Qf E L O
  obtain ⟨n0, hn0, hn1, he⟩ := q_is_at hC (ad := ad) (cs := cs) (σ := σ)
  obtain ⟨hin, hcl⟩ := q_idx O.2.1 hi
  have hD := q_D (cs := cs) (sh := sh) σ E.1.2.2.2.2.2.2.2.2
  have hrg : q_rng sh (q_up σ x i v) := q_rng_up E.2.1.1 (fun n1 e1 e2 => by
    have h := E.2.1.1 n1 e2
    rw [e1, hC.2] at h
    rw [hC.2]
    intro k'
    show q_tr 3 (if k' = i then v else σ x k')
    by_cases e : k' = i
    · rw [if_pos e]; exact hv
    · rw [if_neg e]; exact h k')
  refine va_cast E.1.1 E.1.2.1 E.1.2.2.2.2.2.1 E.2.1.2.1 hD E.2.1.2.2 n0 3 he rfl hin hd (fun H1 locs1 hP1 _ hS1 => ?_)
  have e2 : (q_wld ad cs sh σ).set n0 (ad x, .inl (cs 3, N, .inl (upd (fun j => Int32.ofInt (σ x j)) (Int32.ofInt i).toNatClampNeg (vp_nar .char (Int32.ofInt v))))) = q_wld ad cs sh (q_up σ x i v) := by
    rw [show vp_nar .char (Int32.ofInt v) = Int32.ofInt v from q_nchar hv]
    subst hn0
    refine q_wld_set ?_ (fun c' hc' => q_up_o (by omega))
    rw [hC.2]
    show (Sum.inl (cs 3, N, _) : va_E) = .inl (cs 3, N, .inl _)
    congr 4
    funext j
    show (if j = (Int32.ofInt i).toNatClampNeg then Int32.ofInt v else Int32.ofInt (σ n0 j)) = Int32.ofInt (q_up σ n0 i v n0 j)
    rw [q_up_c]
    by_cases e : (j : Int) = i
    · rw [if_pos (by omega)]
      show _ = Int32.ofInt (if (j : Int) = i then v else _)
      rw [if_pos e]
    · rw [if_neg (by omega)]
      show _ = Int32.ofInt (if (j : Int) = i then v else _)
      rw [if_neg e]
  rw [e2] at hP1
  exact kk p l e s m args below meth c D cs ad H1 locs1 la Qf ⟨E.1, ⟨hrg, hP1, hS1⟩, E.2.2⟩ L O.2.2.2
theorem q_lastore {M : q_M} {sh : q_H} {pc n : Nat} {ls : List (Option q_V)} {st : List q_V} {σ : q_S} {Q : Option q_V → q_S → Prop} {x i v : Int} {N : Nat} (hd : decode (q_cc M) pc = .ok (.lastore, 1)) (hn : pc + 1 = n) (hC : q_is sh x (.inr (.inl (1, N)))) (hi : 0 ≤ i ∧ i < (N : Int)) (kk : q_WP M sh n ls st (q_up σ x i v) Q) : q_WP M sh pc ls (.inr (.inl v) :: .inl i :: .inr (.inr x) :: st) σ Q := by
  subst hn
  intro p l e s m args below meth c D cs ad H locs la Qf E L O
  obtain ⟨n0, hn0, hn1, he⟩ := q_is_at hC (ad := ad) (cs := cs) (σ := σ)
  obtain ⟨hin, hcl⟩ := q_idx O.2.1 hi
  have hD := q_D (cs := cs) (sh := sh) σ E.1.2.2.2.2.2.2.2.2
  have hrg : q_rng sh (q_up σ x i v) := q_rng_up E.2.1.1 (fun n1 e1 e2 => by
    have h := E.2.1.1 n1 e2
    rw [e1, hC.2] at h
    rw [hC.2]
    intro k'
    show q_tr 1 (if k' = i then v else σ x k')
    by_cases e : k' = i
    · rw [if_pos e]; exact O.1
    · rw [if_neg e]; exact h k')
  refine va_last E.1.1 E.1.2.1 E.1.2.2.2.2.2.1 E.2.1.2.1 hD E.2.1.2.2 n0 1 he rfl hin hd (fun H1 locs1 hP1 _ hS1 => ?_)
  have e2 : (q_wld ad cs sh σ).set n0 (ad x, .inl (cs 1, N, .inr (.inl (vp_updL (fun j => Int64.ofInt (σ x j)) (Int32.ofInt i).toNatClampNeg (Int64.ofInt v))))) = q_wld ad cs sh (q_up σ x i v) := by
    subst hn0
    refine q_wld_set ?_ (fun c' hc' => q_up_o (by omega))
    rw [hC.2]
    show (Sum.inl (cs 1, N, _) : va_E) = .inl (cs 1, N, .inr (.inl _))
    congr 5
    funext j
    show (if j = (Int32.ofInt i).toNatClampNeg then Int64.ofInt v else Int64.ofInt (σ n0 j)) = Int64.ofInt (q_up σ n0 i v n0 j)
    rw [q_up_c]
    by_cases e : (j : Int) = i
    · rw [if_pos (by omega)]
      show _ = Int64.ofInt (if (j : Int) = i then v else _)
      rw [if_pos e]
    · rw [if_neg (by omega)]
      show _ = Int64.ofInt (if (j : Int) = i then v else _)
      rw [if_neg e]
  rw [e2] at hP1
  exact kk p l e s m args below meth c D cs ad H1 locs1 la Qf ⟨E.1, ⟨hrg, hP1, hS1⟩, E.2.2⟩ L O.2.2.2
theorem q_aaload {M : q_M} {sh : q_H} {pc n : Nat} {ls : List (Option q_V)} {st : List q_V} {σ : q_S} {Q : Option q_V → q_S → Prop} {x i : Int} {t N : Nat} {g : Int → Int} {nm : String} (hd : decode (q_cc M) pc = .ok (.aaload, 1)) (hn : pc + 1 = n) (hC : q_is sh x (.inr (.inr (t, N, g)))) (ht : ∀ cs, (q_tys cs)[t]? = some (cs t, .object nm)) (hi : 0 ≤ i ∧ i < (N : Int)) (kk : q_WP M sh n ls (.inr (.inr (g i)) :: st) σ Q) : q_WP M sh pc ls (.inl i :: .inr (.inr x) :: st) σ Q := by
  subst hn
  intro p l e s m args below meth c D cs ad H locs la Qf E L O
  obtain ⟨n0, hn0, hn1, he⟩ := q_is_at hC (ad := ad) (cs := cs) (σ := σ)
  obtain ⟨hin, hcl⟩ := q_idx O.1 hi
  have k' := kk p l e s m args below meth c D cs ad H locs la Qf E L ⟨trivial, O.2.2⟩
  refine va_aldq E.1.1 E.1.2.1 E.1.2.2.2.2.2.1 E.2.1.2.1 n0 t he (ht cs) hin hd ?_
  show W _ _ _ _ _ _ _ _ _ _ _ _ _ _ _ (F0 m (pc + 1) la (.ref (ad (g ((Int32.ofInt i).toNatClampNeg : Int))) :: st.map (q_cv ad)))
  rw [hcl]
  exact k'
theorem q_alen {M : q_M} {sh : q_H} {pc n : Nat} {ls : List (Option q_V)} {st : List q_V} {σ : q_S} {Q : Option q_V → q_S → Prop} {x y : Int} {t N : Nat} {ty : FieldType} (hd : decode (q_cc M) pc = .ok (.arraylength, 1)) (hn : pc + 1 = n) (hC : q_is sh x (.inr (.inl (t, N)))) (ht : ∀ cs, (q_tys cs)[t]? = some (cs t, ty)) (hy : (N : Int) = y) (hy2 : q_i32 y) (kk : q_WP M sh n ls (.inl y :: st) σ Q) : q_WP M sh pc ls (.inr (.inr x) :: st) σ Q := by
  subst hn
  intro p l e s m args below meth c D cs ad H locs la Qf E L O
  obtain ⟨n0, hn0, hn1, he⟩ := q_is_at hC (ad := ad) (cs := cs) (σ := σ)
  have k' := kk p l e s m args below meth c D cs ad H locs la Qf E L ⟨hy2, O.2⟩
  exact va_alen E.1.1 E.1.2.1 E.1.2.2.2.2.2.1 E.2.1.2.1 n0 t he (ht cs) (by rw [← hy]; rfl) hd k'
def q_cpy (σ : q_S) (c0 sp c1 dp n : Int) : q_S := fun c' x' => if c' = c1 ∧ dp ≤ x' ∧ x' < dp + n then σ c0 (sp + (x' - dp)) else σ c' x'
theorem q_copyi {M : q_M} {sh : q_H} {pc n : Nat} {ls : List (Option q_V)} {st : List q_V} {σ : q_S} {Q : Option q_V → q_S → Prop} {c0 c1 sp dp N : Int} {idx n0 n1 : Nat} (hd : decode (q_cc M) pc = .ok (.invokestatic idx, 3)) (hn : pc + 3 = n) (hlk : Cond.methodLink (q_own M) idx arraycopyName ∈ q_words) (hnt : Cond.native arraycopyName ∈ q_words) (hst : Cond.static arraycopyName ∈ q_words) (hin : Cond.initialized "java/lang/System" ∈ q_words)
    (hC0 : q_is sh c0 (.inr (.inl (0, n0)))) (hC1 : q_is sh c1 (.inr (.inl (0, n1)))) (h1 : 0 ≤ sp) (h2 : 0 ≤ dp) (h3 : 0 ≤ N) (h4 : sp + N ≤ n0) (h5 : dp + N ≤ n1) (hfr : 1 ≤ q_dp M) (hlo : ∀ ad : Int → Nat, ((st.map (q_cv ad)).map fun v => v.category).sum + (nativeFrameWords "java/lang/System" "arraycopy" 5 + 11) ≤ 64 * q_dp M) (kk : q_WP M sh n ls st (q_cpy σ c0 sp c1 dp N) Q) : q_WP M sh pc ls (.inl N :: .inl dp :: .inr (.inr c1) :: .inl sp :: .inr (.inr c0) :: st) σ Q := by
  subst hn
  intro p l e s m args below meth c D cs ad H locs la Qf E L O
  obtain ⟨m0, hm0, hm1, he0⟩ := q_is_at hC0 (ad := ad) (cs := cs) (σ := σ)
  obtain ⟨m1, hm2, hm3, he1⟩ := q_is_at hC1 (ad := ad) (cs := cs) (σ := σ)
  have hD := q_D (cs := cs) (sh := sh) σ E.1.2.2.2.2.2.2.2.2
  have tn : ∀ y : Int, q_i32 y → 0 ≤ y → ((Int32.ofInt y).toNatClampNeg : Int) = y := fun y hy h0 => by
    rw [Int32.toNatClampNeg_ofInt_of_le hy.1 hy.2]; omega
  have t1 := tn sp O.2.2.2.1 h1
  have t2 := tn dp O.2.1 h2
  have t3 := tn N O.1 h3
  have nl : ∀ y : Int, q_i32 y → 0 ≤ y → ¬ Int32.ofInt y < 0 := fun y hy h0 h => by
    have := (q_lt hy q_0).mp h
    omega
  have hrg : q_rng sh (q_cpy σ c0 sp c1 dp N) := by
    intro k hk
    by_cases e : (k : Int) = c1
    · have h := E.2.1.1 k hk
      have h0 := E.2.1.1 m0 hm1
      rw [hm0, hC0.2] at h0
      rw [e, hC1.2] at h ⊢
      intro y
      show q_i32 (if c1 = c1 ∧ dp ≤ y ∧ y < dp + N then σ c0 (sp + (y - dp)) else σ c1 y)
      split
      · exact h0 _
      · exact h y
    · have : q_cpy σ c0 sp c1 dp N k = σ k := by funext y; simp [q_cpy, e]
      rw [this]
      exact E.2.1.1 k hk
  refine va_copyi E.1.1 E.1.2.1 (by rw [E.1.2.2.1, L.1]) E.1.2.2.2.1 (q_hw E.1.2.2.2.2.1 hlk) (q_hw E.1.2.2.2.2.1 hnt) (q_hw E.1.2.2.2.2.1 hst) (q_hw E.1.2.2.2.2.1 hin) E.1.2.2.2.2.2.1 E.2.1.2.1 hD E.2.1.2.2 m0 m1 0 0 he0 he1 rfl rfl rfl (nl sp O.2.2.2.1 h1) (nl dp O.2.1 h2) (nl N O.1 h3) (by omega) (by omega) (fun _ _ => rfl) hfr (hlo ad) hd (fun H1 locs1 hP1 _ hS1 => ?_)
  have e2 : (q_wld ad cs sh σ).set m1 (ad c1, .inl (cs 0, n1, .inl (va_cpy (fun j => Int32.ofInt (σ c0 j)) (fun j => Int32.ofInt (σ c1 j)) (Int32.ofInt sp).toNatClampNeg (Int32.ofInt dp).toNatClampNeg (Int32.ofInt N).toNatClampNeg))) = q_wld ad cs sh (q_cpy σ c0 sp c1 dp N) := by
    subst hm2
    refine q_wld_set ?_ (fun c' hc' => by funext y; simp [q_cpy]; omega)
    rw [hC1.2]
    show (Sum.inl (cs 0, n1, _) : va_E) = .inl (cs 0, n1, .inl _)
    congr 4
    funext j
    show (if _ then Int32.ofInt (σ c0 _) else Int32.ofInt (σ m1 j)) = Int32.ofInt (if (m1 : Int) = m1 ∧ dp ≤ j ∧ (j : Int) < dp + N then σ c0 (sp + (j - dp)) else σ m1 j)
    by_cases e : dp ≤ j ∧ (j : Int) < dp + N
    · rw [if_pos (by omega), if_pos ⟨rfl, e⟩]
      congr 2
      omega
    · rw [if_neg (by omega), if_neg (fun h => e h.2)]
  rw [e2] at hP1
  exact kk p l e s m args below meth c D cs ad H1 locs1 la Qf ⟨E.1, ⟨hrg, hP1, hS1⟩, E.2.2⟩ L O.2.2.2.2.2
/-- switches -/
theorem q_tableIn {M : q_M} {sh : q_H} {pc : Nat} {ls : List (Option q_V)} {st : List q_V} {σ : q_S} {Q : Option q_V → q_S → Prop} {dflt lo hi off x : Int} {offs : Array Int} {len t : Nat} (hd : decode (q_cc M) pc = .ok (.tableswitch dflt lo hi offs, len)) (h1 : lo ≤ x) (h2 : x ≤ hi) (ho : offs[(x - lo).toNat]? = some off) (ht : (pc : Int) + off = (t : Int)) (k : q_WP M sh t ls st σ Q) : q_WP M sh pc ls (.inl x :: st) σ Q := by
  intro p l e s m args below meth c D cs ad H locs la Qf E L O
  have e0 := q_t32 O.1
  exact lv_tableIn E.1.1 E.1.2.1 hd (by rw [e0]; omega) (by rw [e0]; omega) (by rw [e0]; exact ho) ht (k p l e s m args below meth c D cs ad H locs la Qf E L O.2)
theorem q_tableOut {M : q_M} {sh : q_H} {pc : Nat} {ls : List (Option q_V)} {st : List q_V} {σ : q_S} {Q : Option q_V → q_S → Prop} {dflt lo hi x : Int} {offs : Array Int} {len t : Nat} (hd : decode (q_cc M) pc = .ok (.tableswitch dflt lo hi offs, len)) (h : x < lo ∨ hi < x) (ht : (pc : Int) + dflt = (t : Int)) (k : q_WP M sh t ls st σ Q) : q_WP M sh pc ls (.inl x :: st) σ Q := by
  intro p l e s m args below meth c D cs ad H locs la Qf E L O
  have e0 := q_t32 O.1
  exact lv_tableOut E.1.1 E.1.2.1 hd (by rw [e0]; exact h) ht (k p l e s m args below meth c D cs ad H locs la Qf E L O.2)
theorem q_lookup {M : q_M} {sh : q_H} {pc : Nat} {ls : List (Option q_V)} {st : List q_V} {σ : q_S} {Q : Option q_V → q_S → Prop} {dflt off x : Int} {ps : Array (Int × Int)} {len t : Nat} (hd : decode (q_cc M) pc = .ok (.lookupswitch dflt ps, len)) (hp : (ps.toList.zip (ps.toList.drop 1)).all (fun (a, next) => a.1 < next.1) = true) (ho : Op.lookupswitch.offset ps.toList dflt x = off) (ht : (pc : Int) + off = (t : Int)) (k : q_WP M sh t ls st σ Q) : q_WP M sh pc ls (.inl x :: st) σ Q := by
  intro p l e s m args below meth c D cs ad H locs la Qf E L O
  have e0 := q_t32 O.1
  exact lv_lookup E.1.1 E.1.2.1 hd hp (by rw [e0]; exact ho) ht (k p l e s m args below meth c D cs ad H locs la Qf E L O.2)
/-- the row NUMBERS -/
theorem q_getNum {M : q_M} {sh : q_H} {pc n : Nat} {ls : List (Option q_V)} {st : List q_V} {σ : q_S} {Q : Option q_V → q_S → Prop} {idx : Nat} (hd : decode (q_cc M) pc = .ok (.getstatic idx, 3)) (hn : pc + 3 = n) (hlk : Cond.fieldLink (q_own M) idx "TrackChamber" "NUMBERS" "[I" ∈ q_words) (kk : q_WP M sh n ls (.inr (.inr 1000) :: st) σ Q) : q_WP M sh pc ls st σ Q := by
  subst hn
  intro p l e s m args below meth c D cs ad H locs la Qf E L O
  exact va_gets E.1.1 E.1.2.1 E.1.2.2.2.2.2.2.2.1.1 E.2.1.2.2 E.1.2.2.2.1 (q_hw E.1.2.2.2.2.1 hlk) (fun _ h => h) hd (kk p l e s m args below meth c D cs ad H locs la Qf E L ⟨trivial, O⟩)
theorem q_num_in (k : Nat) : q_i32 (q_num.getD k 0) := by
  by_cases h : k < 60
  · have h2 : ∀ k : Fin 60, -2147483648 ≤ q_num.getD k 0 ∧ q_num.getD k 0 < 2147483648 := by decide
    exact h2 ⟨k, h⟩
  · have h3 : q_num.length = 60 := rfl
    have : q_num[k]? = none := List.getElem?_eq_none (by omega)
    rw [List.getD_eq_getElem?_getD, this]
    exact q_0
theorem q_ialNum {M : q_M} {sh : q_H} {pc n : Nat} {ls : List (Option q_V)} {st : List q_V} {σ : q_S} {Q : Option q_V → q_S → Prop} {i : Int} (hd : decode (q_cc M) pc = .ok (.iaload, 1)) (hn : pc + 1 = n) (hi : 0 ≤ i ∧ i < 60) (kk : q_WP M sh n ls (.inl (q_num.getD i.toNat 0) :: st) σ Q) : q_WP M sh pc ls (.inl i :: .inr (.inr 1000) :: st) σ Q := by
  subst hn
  intro p l e s m args below meth c D cs ad H locs la Qf E L O
  obtain ⟨hin, hcl⟩ := q_idx (n := 60) O.1 hi
  have k' := kk p l e s m args below meth c D cs ad H locs la Qf E L ⟨q_num_in _, O.2.2⟩
  refine va_ti E.1.1 E.1.2.1 E.1.2.2.2.2.2.2.2.1.2.1 E.2.1.2.2 hin rfl hd ?_
  have : (Int32.ofInt i).toNatClampNeg = i.toNat := by omega
  rw [this]
  exact k'
