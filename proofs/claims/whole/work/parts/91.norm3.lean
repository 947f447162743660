/-! the start of a round of the law's loop: both worlds in a form where the class's cells are the reference's -/
def clX (σ : q_S) : q_S := fun c x => if c = 92 ∧ x < 0 then 0 else σ c x
def clM (τ : q_S) : q_S := fun c x => if c = 14 ∧ x < 0 then 0 else τ c x
theorem clX_o {σ : q_S} {c : Int} (h : c ≠ 92) : clX σ c = σ c := funext fun x => if_neg (fun z => h z.1)
theorem clX_i {σ : q_S} {c x : Int} (h : 0 ≤ x) : clX σ c x = σ c x := if_neg (fun z => by omega)
theorem clM_o {τ : q_S} {c : Int} (h : c ≠ 14) : clM τ c = τ c := funext fun x => if_neg (fun z => h z.1)
theorem clM_i {τ : q_S} {c x : Int} (h : 0 ≤ x) : clM τ c x = τ c x := if_neg (fun z => by omega)
theorem rE_pos {C : q_C} {f g : Int → Int} (h : ∀ x : Int, 0 ≤ x → f x = g x) : rE C f g := by
  unfold rE
  split
  · exact fun k t _ => h k (by omega)
  · exact fun j _ => h j (by omega)
  · trivial
theorem clX_rng {σ : q_S} (h : q_rng shX σ) : q_rng shX (clX σ) := by
  intro c hc
  by_cases e : c = 92
  · subst e
    have h2 := h 92 hc
    intro k
    show q_tr 2 (clX σ 92 k)
    by_cases hk : k < 0
    · rw [show clX σ 92 k = 0 from if_pos ⟨rfl, hk⟩]
      exact ⟨by decide, by decide⟩
    · rw [clX_i (by omega)]
      exact h2 k
  · rw [clX_o (by omega)]
    exact h c hc
theorem ovM_cl {τ s : q_S} (h : q_rng shM (ovM τ s)) : q_rng shM (ovM (clM τ) s) := by
  intro c hc
  by_cases e : c = 14
  · subst e
    have h2 := h 14 hc
    intro k
    show q_i32 (ovM (clM τ) s 14 k)
    by_cases hk : k < 0
    · have : ovM (clM τ) s 14 k = 0 := by
        show clM τ 14 k = 0
        exact if_pos ⟨rfl, hk⟩
      rw [this]
      exact q_0
    · have : ovM (clM τ) s 14 k = ovM τ s 14 k := by
        show clM τ 14 k = τ 14 k
        exact clM_i (by omega)
      rw [this]
      exact h2 k
  · have : ovM (clM τ) s c = ovM τ s c := by
      funext x
      unfold ovM
      rw [clM_o (by omega)]
    rw [this]
    exact h c hc
theorem ovM_rE {τ s : q_S} (c : Nat) : rE (shM.2 c) (ovM τ s c) (ovM (clM τ) s c) := by
  refine rE_pos (fun x hx => ?_)
  unfold ovM
  rw [clM_i hx]
theorem Rel_cl {σ τ : q_S} (h : Rel σ τ) : Rel (clX σ) (clM τ) := by
  obtain ⟨_, _, _, i4, i5, i6, i7⟩ := h.1.1
  have x0 : clX σ 0 = σ 0 := clX_o (by decide)
  have t0 : clM τ 0 = τ 0 := clM_o (by decide)
  refine Rel_x h (fun c c0 c1 => clX_o (by omega)) (by rw [x0]) (fun c c0 c1 => clM_o (by omega)) (clM_o (by decide)) (by rw [t0]) (by rw [t0]) (by rw [clX_o (by decide)]; exact i4) (fun k k0 k1 => ?_) (by rw [x0]; exact i6) (fun l l0 l1 => by rw [clX_o (by omega)]; exact i7 l l0 l1) ?_ ?_ ?_
  · rw [clX_o (by decide)] at k1
    rw [clX_i k0]
    exact i5 k k0 k1
  · unfold rT
    rw [clX_o (c := 91) (by decide), t0]
    refine ⟨h.2.2.2.2.1.1, fun k k0 k1 => ?_⟩
    rw [clX_i k0, clM_i k0]
    exact h.2.2.2.2.1.2 k k0 k1
  · unfold rS
    rw [x0, t0, clX_o (by decide), clM_o (by decide)]
    exact h.2.2.2.2.2.1
  · intro l l0 l1
    rw [clX_o (c := 104 + 2 * l) (by omega), clX_o (c := 104 + 2 * l + 1) (by omega), clM_o (by decide), clM_o (by decide)]
    exact h.2.2.2.2.2.2 l l0 l1
theorem tT_cl {σ τ : q_S} (h : rT (clX σ) (clM τ)) : tT (clX σ) = tT (tx (clM τ)) := by
  funext k
  have e1 : tx (clM τ) 91 1 = clM τ 0 28 := rfl
  have e2 : tx (clM τ) 92 k = clM τ 14 k := rfl
  unfold tT
  rw [e1, e2, h.1]
  by_cases hk : k < clM τ 0 28
  · rw [if_pos hk, if_pos hk]
    by_cases h0 : k < 0
    · rw [show clX σ 92 k = 0 from if_pos ⟨rfl, h0⟩, show clM τ 14 k = 0 from if_pos ⟨rfl, h0⟩]
    · exact h.2 k (by omega) hk
  · rw [if_neg hk, if_neg hk]
theorem tT_nrm {σ τ : q_S} : tT (nrm σ τ) = tT σ := by
  unfold tT
  rw [nrm_o (c := 91) (by decide), nrm_o (c := 92) (by decide)]
theorem nrm_cE {σ τ : q_S} : cE (nrm σ τ) (pM (τ 1)) := fun _ a b => nrm_i ⟨a, b⟩
theorem nrm_ov {σ τ s : q_S} : nrm σ (ovM τ s) = nrm σ τ := by
  have : ovM τ s 1 = τ 1 := by
    funext x
    rfl
  unfold nrm
  rw [this]
theorem l_nrm {D : va_G} {cs : Nat → ClassId} {aX aM : Int → Nat} {H : Heap} {ω τ s : q_S} (h : Rel ω τ) (rX : q_rng shX ω) (rM : q_rng shM (ovM τ s)) (pX : va_P D vwCl (q_wld aX cs shX ω) H) (pM_ : va_P D vwCl (q_wld aM cs shM (ovM τ s)) H) : ∃ ω' τ', Rel ω' τ' ∧ cE ω' (pM (τ' 1)) ∧ tT ω' = tT (tx τ') ∧ q_rng shX ω' ∧ q_rng shM (ovM τ' s) ∧ va_P D vwCl (q_wld aX cs shX ω') H ∧ va_P D vwCl (q_wld aM cs shM (ovM τ' s)) H := by
  have hc := Rel_cl h
  have rM2 := ovM_cl rM
  have rX2 := clX_rng rX
  have rX3 := nrm_rng rX2 rM2
  rw [nrm_ov] at rX3
  refine ⟨nrm (clX ω) (clM τ), clM τ, nrm_Rel hc, nrm_cE, ?_, rX3, rM2, ?_, ?_⟩
  · rw [tT_nrm]
    exact tT_cl hc.2.2.2.2.1
  · exact wld_c (nrm_rE hc.2.1) (wld_c (fun c _ => rE_pos (fun x hx => (clX_i hx).symm)) pX)
  · exact wld_c (fun c _ => ovM_rE c) pM_
