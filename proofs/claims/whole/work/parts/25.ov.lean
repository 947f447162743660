/-! The class's cells that no answer outlives (curves, pushes, members, the naming, the tape's reader) are an overlay: ov base scratch. -/
def scX (c x : Int) : Bool := (decide (81 ≤ c) && decide (c ≤ 90)) || ((decide (96 ≤ c) && decide (c ≤ 103)) || ((decide (c = 91) && decide (2 ≤ x)) || decide (c = 93)))
def ov (σ s : q_S) : q_S := fun c x => cond (scX c x) (s c x) (σ c x)
section OV
variable {σ s : q_S} {c x v : Int} {g : Int → Int}
theorem ov_s (h : scX c x = true) : ov σ s c x = s c x := by simp [ov, h]
theorem ov_n (h : scX c x = false) : ov σ s c x = σ c x := by simp [ov, h]
theorem ov_sf (h : ∀ x, scX c x = true) : ov σ s c = s c := by funext x; exact ov_s (h x)
theorem ov_nf (h : ∀ x, scX c x = false) : ov σ s c = σ c := by funext x; exact ov_n (h x)
theorem ov_up (h : scX c x = true) : q_up (ov σ s) c x v = ov σ (q_up s c x v) := by
  funext c' x'
  unfold q_up ov
  by_cases e : c' = c ∧ x' = x
  · obtain ⟨rfl, rfl⟩ := e
    simp [h]
  · simp [e]
theorem ov_upn (h : scX c x = false) : q_up (ov σ s) c x v = ov (q_up σ c x v) s := by
  funext c' x'
  unfold q_up ov
  by_cases e : c' = c ∧ x' = x
  · obtain ⟨rfl, rfl⟩ := e
    simp [h]
  · simp [e]
theorem ov_row (h : ∀ x, scX c x = true) : q_row (ov σ s) c g = ov σ (q_row s c g) := by
  funext c' x'
  unfold q_row ov
  by_cases e : c' = c
  · subst e
    simp [h]
  · simp [e]
theorem ov_id : ov σ σ = σ := by
  funext c x
  unfold ov
  cases scX c x <;> rfl
theorem ov_ov {s' : q_S} : ov (ov σ s) s' = ov σ s' := by
  funext c x
  unfold ov
  cases scX c x <;> rfl
theorem sc_cv {t : Int} (h : 0 ≤ t ∧ t < 8) (x : Int) : scX (96 + t) x = true := by
  unfold scX
  have h1 : (96 : Int) ≤ 96 + t := by omega
  have h2 : 96 + t ≤ 103 := by omega
  simp [h1, h2]
theorem ov_lay {a b d e : Int} (h : ∀ x, scX c x = true) : q_lay (ov σ s) c a b d e = ov σ (q_lay s c a b d e) := by
  unfold q_lay
  rw [ov_up (h _), ov_up (h _), ov_up (h _), ov_up (h _)]
end OV
def cvl (s : q_S) (t : Int) (f : Int → Int) : q_S := q_lay s (96 + t) (lB f (6 * t)) (lA f (6 * t)) (lU f (6 * t)) (lO f (6 * t))
def laid (s : q_S) (t : Int) (f : Int → Int) : Prop := s (96 + t) 0 = lB f (6 * t) ∧ s (96 + t) 1 = lA f (6 * t) ∧ s (96 + t) 2 = lU f (6 * t) ∧ s (96 + t) 3 = lO f (6 * t)
theorem laid_cvl {s : q_S} {t : Int} {f : Int → Int} : laid (cvl s t f) t f := by
  unfold laid cvl q_lay
  refine ⟨?_, ?_, ?_, ?_⟩
  · rw [q_up_n (by omega), q_up_n (by omega), q_up_n (by omega), q_up_s]
  · rw [q_up_n (by omega), q_up_n (by omega), q_up_s]
  · rw [q_up_n (by omega), q_up_s]
  · rw [q_up_s]
theorem cvl_o {s : q_S} {t c x : Int} {f : Int → Int} (h : c ≠ 96 + t) : cvl s t f c x = s c x := by
  unfold cvl q_lay
  rw [q_up_n (by omega), q_up_n (by omega), q_up_n (by omega), q_up_n (by omega)]
theorem cvl_of {s : q_S} {t c : Int} {f : Int → Int} (h : c ≠ 96 + t) : cvl s t f c = s c := by
  funext x
  exact cvl_o h
theorem laid_o {s : q_S} {t u : Int} {f : Int → Int} (h : laid s t f) (hu : u ≠ t) : laid (cvl s u f) t f := by
  unfold laid at *
  rw [cvl_of (by omega)]
  exact h
theorem laid_keep {s : q_S} {t u : Int} {f : Int → Int} (h : laid s t f) : laid (cvl s u f) t f := by
  by_cases e : u = t
  · subst e
    exact laid_cvl
  · exact laid_o h e
def onb (f : Int → Int) (t x y : Int) : Bool := decide (lB f (6 * t) * (x * x + y * y) - lA f (6 * t) * x - lU f (6 * t) * y + lO f (6 * t) = 0)
def unl (f : Int → Int) (k : Int) : Prop := ¬ (f k = f (k + 2) ∧ f (k + 1) = f (k + 3)) ∧ ¬ (f k = f (k + 4) ∧ f (k + 1) = f (k + 5)) ∧ ¬ (f (k + 2) = f (k + 4) ∧ f (k + 3) = f (k + 5))
def IPp (fd nt nv : Int) (f kd xs ys as os : Int → Int) : Prop := (1 ≤ fd ∧ fd ≤ 9) ∧ (0 ≤ nt ∧ nt ≤ 8) ∧ (0 ≤ nv ∧ nv ≤ 4) ∧ (∀ t : Int, 0 ≤ t → t < nt → lG f (6 * t) ∧ unl f (6 * t)) ∧ (∀ t : Int, 0 ≤ t → t < nt → 0 ≤ kd t ∧ kd t ≤ 12) ∧ (∀ v : Int, 0 ≤ v → v < nv → q_bd (xs v) 20 ∧ q_bd (ys v) 20 ∧ tieok nt (as v) (os v))
def IX (σ : q_S) : Prop := IPp (σ 1 0) (σ 1 1) (σ 1 2) (σ 2) (σ 3) (σ 4) (σ 5) (σ 6) (σ 7) ∧ (0 ≤ σ 8 1 ∧ σ 8 1 < 9) ∧ (0 ≤ σ 8 2 ∧ σ 8 2 ≤ 8) ∧ (0 ≤ σ 91 1 ∧ σ 91 1 ≤ 120) ∧ (∀ k : Int, 0 ≤ k → k < σ 91 1 → 1 ≤ σ 92 k ∧ σ 92 k ≤ 127) ∧ (0 ≤ σ 0 11 ∧ σ 0 11 ≤ 6) ∧ (∀ l : Int, 0 ≤ l → l < 3 → -1 ≤ σ (104 + 2 * l) 1 ∧ σ (104 + 2 * l) 1 ≤ 24)
theorem IX.pt {σ : q_S} (h : IX σ) {t : Int} (ht : 0 ≤ t ∧ t < σ 1 1) : lG (σ 2) (6 * t) := (h.1.2.2.2.1 t ht.1 ht.2).1
section QF
variable {M : q_M} {sh : q_H} {pc n : Nat} {ls : List (Option q_V)} {st : List q_V} {σ : q_S} {Q : Option q_V → q_S → Prop}
theorem q_getIF (g : Int → Int) {x kI : Int} {idx ci k : Nat} {fs : List (Nat ⊕ Int)} {t : Nat} (ht : t ≠ 1) (hd : decode (q_cc M) pc = .ok (.getfield idx, 3)) (hn : pc + 3 = n) (hf : q_FL (q_own M) idx ci k) (hC : q_is sh x (.inl (ci, fs))) (hk : fs[k]? = some (.inl t)) (hkI : (k : Int) = kI) (hv : σ x kI = g kI) (kk : q_WP M sh n ls (.inl (g kI) :: st) σ Q) : q_WP M sh pc ls (.inr (.inr x) :: st) σ Q := q_getI ht hd hn hf hC hk hkI (by rw [hv]; exact kk)
theorem q_getJF (g : Int → Int) {x kI : Int} {idx ci k : Nat} {fs : List (Nat ⊕ Int)} (hd : decode (q_cc M) pc = .ok (.getfield idx, 3)) (hn : pc + 3 = n) (hf : q_FL (q_own M) idx ci k) (hC : q_is sh x (.inl (ci, fs))) (hk : fs[k]? = some (.inl 1)) (hkI : (k : Int) = kI) (hv : σ x kI = g kI) (kk : q_WP M sh n ls (.inr (.inl (g kI)) :: st) σ Q) : q_WP M sh pc ls (.inr (.inr x) :: st) σ Q := q_getJ hd hn hf hC hk hkI (by rw [hv]; exact kk)
theorem q_ialoadF (g : Int → Int) {x i : Int} {N : Nat} (hd : decode (q_cc M) pc = .ok (.iaload, 1)) (hn : pc + 1 = n) (hC : q_is sh x (.inr (.inl (0, N)))) (hi : 0 ≤ i ∧ i < (N : Int)) (hv : σ x = g) (kk : q_WP M sh n ls (.inl (g i) :: st) σ Q) : q_WP M sh pc ls (.inl i :: .inr (.inr x) :: st) σ Q := q_iaload hd hn hC hi (by rw [hv]; exact kk)
theorem q_laloadF (g : Int → Int) {x i : Int} {N : Nat} (hd : decode (q_cc M) pc = .ok (.laload, 1)) (hn : pc + 1 = n) (hC : q_is sh x (.inr (.inl (1, N)))) (hi : 0 ≤ i ∧ i < (N : Int)) (hv : σ x = g) (kk : q_WP M sh n ls (.inr (.inl (g i)) :: st) σ Q) : q_WP M sh pc ls (.inl i :: .inr (.inr x) :: st) σ Q := q_laload hd hn hC hi (by rw [hv]; exact kk)
theorem q_caloadF (g : Int → Int) {x i : Int} {N : Nat} (hd : decode (q_cc M) pc = .ok (.caload, 1)) (hn : pc + 1 = n) (hC : q_is sh x (.inr (.inl (3, N)))) (hi : 0 ≤ i ∧ i < (N : Int)) (hv : σ x = g) (kk : q_WP M sh n ls (.inl (g i) :: st) σ Q) : q_WP M sh pc ls (.inl i :: .inr (.inr x) :: st) σ Q := q_caload hd hn hC hi (by rw [hv]; exact kk)
/-- one value for a bool's number -/
theorem q_lfb {P : Prop} [Decidable P] {v : Int} (h : P ∧ v = 1 ∨ ¬ P ∧ v = 0) : (some (.inl v) : Option q_V) = some (.inl (if P then 1 else 0)) := by
  rcases h with ⟨h, rfl⟩ | ⟨h, rfl⟩
  · rw [if_pos h]
  · rw [if_neg h]
end QF
def posX (σ : q_S) (P : Option q_V → Prop) : Option q_V → q_S → Prop := fun r σ' => P r ∧ ∃ s', σ' = ov σ s'
