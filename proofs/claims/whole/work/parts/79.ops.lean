/-! a change reads and writes the picture's cells only -/
def cE (σ ρ : q_S) : Prop := ∀ c : Int, 1 ≤ c → c ≤ 7 → σ c = ρ c
def cR (p p' : Int × q_S) : Prop := p.1 = p'.1 ∧ cE p.2 p'.2
theorem cE_up {σ ρ : q_S} {c k v : Int} (h : cE σ ρ) : cE (q_up σ c k v) (q_up ρ c k v) := by
  intro a a0 a1
  funext x
  unfold q_up
  by_cases e : a = c ∧ x = k
  · rw [if_pos e, if_pos e]
  · rw [if_neg e, if_neg e, h a a0 a1]
section CE
variable {σ ρ : q_S}
theorem cE_1 (h : cE σ ρ) : σ 1 = ρ 1 := h 1 (by decide) (by decide)
theorem cE_2 (h : cE σ ρ) : σ 2 = ρ 2 := h 2 (by decide) (by decide)
theorem cE_3 (h : cE σ ρ) : σ 3 = ρ 3 := h 3 (by decide) (by decide)
theorem cE_6 (h : cE σ ρ) : σ 6 = ρ 6 := h 6 (by decide) (by decide)
theorem cE_7 (h : cE σ ρ) : σ 7 = ρ 7 := h 7 (by decide) (by decide)
theorem cE_pE (h : cE σ ρ) : pE σ ρ := ⟨fun j _ _ => by rw [cE_1 h], fun j _ _ => by rw [cE_2 h], fun j _ _ => by rw [cE_3 h], fun k j a b _ _ => by rw [h k (by omega) b]⟩
theorem oF_c (h : cE σ ρ) {x : Int} : cR (oF x σ) (oF x ρ) := by
  unfold oF
  rw [cE_1 h]
  split
  · exact ⟨rfl, cE_up h⟩
  · exact ⟨rfl, h⟩
theorem oT_c (h : cE σ ρ) {ax ay bx by' cx cy : Int} : cR (oT ax ay bx by' cx cy σ) (oT ax ay bx by' cx cy ρ) := by
  unfold oT
  rw [cE_1 h]
  split
  · exact ⟨rfl, h⟩
  · split
    · exact ⟨rfl, h⟩
    · split
      · exact ⟨rfl, h⟩
      · refine ⟨rfl, ?_⟩
        unfold newT
        rw [cE_1 h]
        exact cE_up (cE_up (cE_up (cE_up (cE_up (cE_up (cE_up (cE_up h)))))))
theorem oK_cc (h : cE σ ρ) {t k : Int} : cR (oK t k σ) (oK t k ρ) := by
  unfold oK
  rw [cE_1 h, cE_2 h, cE_3 h]
  split
  · exact ⟨rfl, h⟩
  · split
    · exact ⟨rfl, h⟩
    · exact ⟨rfl, cE_up h⟩
theorem oV_cc (h : cE σ ρ) {x y a b : Int} : cR (oV x y a b σ) (oV x y a b ρ) := by
  unfold oV
  rw [cE_1 h, cE_2 h]
  split
  · exact ⟨rfl, h⟩
  · split
    · exact ⟨rfl, h⟩
    · split
      · exact ⟨rfl, h⟩
      · refine ⟨rfl, ?_⟩
        unfold newV
        rw [cE_1 h]
        exact cE_up (cE_up (cE_up (cE_up (cE_up h))))
theorem oD_c (h : cE σ ρ) : cR (oD σ) (oD ρ) := by
  unfold oD
  rw [cE_1 h]
  split
  · exact ⟨rfl, h⟩
  · exact ⟨rfl, cE_up h⟩
theorem oW_c (h : cE σ ρ) : cR (oW σ) (oW ρ) := by
  unfold oW
  rw [cE_1 h, cE_6 h, cE_7 h]
  split
  · exact ⟨rfl, h⟩
  · exact ⟨rfl, cE_up h⟩
theorem doP_c (h : cE σ ρ) {c : Int} {rd : Int → Int} : cR (doP c rd σ) (doP c rd ρ) := by
  unfold doP
  split
  · exact oF_c h
  · split
    · exact oK_cc h
    · split
      · exact oT_c h
      · exact oV_cc h
end CE
theorem clK_c {ow fi : Int → Int} : ∀ (n : Nat) (i : Int) (σ ρ : q_S), cE σ ρ → cE (clK ow fi n i σ) (clK ow fi n i ρ) := by
  intro n
  induction n with
  | zero => intro i σ ρ h; exact h
  | succ n ih => intro i σ ρ h; exact ih (i + 1) _ _ (cE_up h)
theorem doA_c {T : Int → Int} : ∀ (n : Nat) (p : Int) (rd : Int → Int) (k : Int) (σ ρ : q_S), cE σ ρ → (doA T n p rd k σ).1 = (doA T n p rd k ρ).1 ∧ (doA T n p rd k σ).2.1 = (doA T n p rd k ρ).2.1 ∧ cE (doA T n p rd k σ).2.2 (doA T n p rd k ρ).2.2 := by
  intro n
  induction n with
  | zero => intro p rd k σ ρ h; exact ⟨rfl, rfl, h⟩
  | succ n ih =>
    intro p rd k σ ρ h
    rw [doA, doA]
    cases hn : pStat T p rd with
    | inl q => exact ⟨rfl, rfl, h⟩
    | inr xq =>
      obtain ⟨x, q⟩ := xq
      dsimp only
      have hd := doP_c h (c := T p) (rd := x)
      rw [hd.1]
      split
      · exact ⟨rfl, rfl, hd.2⟩
      · split
        · exact ih _ _ _ _ _ hd.2
        · exact ⟨rfl, rfl, hd.2⟩
