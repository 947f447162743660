/-! the law's cases: changes -/
def RES (r r' : Option q_V) (σ' τ' : q_S) : Prop := r = r' ∧ ∃ σ2 s τ2 s', σ' = ov σ2 s ∧ τ' = ovM τ2 s' ∧ Rel σ2 τ2
theorem cs_op {op : q_S → Int × q_S} (hc : ∀ σ ρ, cE σ ρ → cR (op σ) (op ρ)) (hi : ∀ σ, IPs σ → IPs (op σ).2) (ho : ∀ (σ : q_S) (c : Int), ¬ (1 ≤ c ∧ c ≤ 7) → (op σ).2 c = σ c) (hn : ∀ σ, IPs σ → (op σ).1 < 0 → (op σ).2 = σ) {σ τ σ' τ' : q_S} {r r' : Option q_V} (h : Rel σ τ) (hce : cE σ (pM (τ 1))) (hx : ∃ σ1 s', pcopied σ σ1 1 (10 + 7 * σ 8 1) ∧ r = some (.inl (op σ1).1) ∧ σ' = ov (fin (op σ1)) s') (hm : ∃ z, r' = some z ∧ (z = .inl (op (pM (τ 1))).1 ∧ chM τ (op (pM (τ 1))) τ')) : RES r r' σ' τ' := by
  obtain ⟨σ1, s1, hcp, hr, hs⟩ := hx
  obtain ⟨z, hr', hz, hch⟩ := hm
  have h8 := h.1.1.2.1
  have hce1 : cE σ1 (pM (τ 1)) := fun c a b => (cp_o h8 hcp (by omega)).trans (hce c a b)
  have hI1 : IPs σ1 := IPs_pE h.1.2.1 (cE_pE hce1)
  obtain ⟨e, τ1, s', e1, hR⟩ := chg h hcp (hi σ1 hI1) (hc _ _ hce1) (ho σ1) (hn σ1 hI1) hch
  refine ⟨?_, _, s1, τ1, s', hs, e1, hR⟩
  rw [hr, hr', hz, e]
theorem oD_neg {σ : q_S} (hI : IPs σ) (h : (oD σ).1 < 0) : (oD σ).2 = σ := by
  have hv := hI.2.2.1
  unfold oD at h ⊢
  split
  · rfl
  · rename_i z
    rw [if_neg z] at h
    have h : σ 1 2 - 1 < 0 := h
    omega
theorem oW_neg {σ : q_S} (hI : IPs σ) (h : (oW σ).1 < 0) : (oW σ).2 = σ := by
  have hn := hI.2.1
  unfold oW at h ⊢
  split
  · rfl
  · rename_i z
    rw [if_neg z] at h
    have h : σ 1 1 - 1 < 0 := h
    have : ¬ σ 1 1 = 0 := fun y => z (Or.inl y)
    omega
section CS
variable {σ τ σ' τ' : q_S} {r r' : Option q_V}
theorem cs_field {x : Int} (h : Rel σ τ) (hce : cE σ (pM (τ 1))) (hx : ∃ σ1 s', pcopied σ σ1 1 (10 + 7 * σ 8 1) ∧ r = some (.inl (oF x σ1).1) ∧ σ' = ov (fin (oF x σ1)) s') (hm : ∃ z, r' = some z ∧ (z = .inl (oF x (pM (τ 1))).1 ∧ chM τ (oF x (pM (τ 1))) τ')) : RES r r' σ' τ' :=
  cs_op (op := oF x) (fun _ _ h => oF_c h) (fun _ h => IPs_oF h) (fun _ _ h => oF_o h) (fun σ hI h => doP_neg (c := 102) (rd := fun _ => x) hI h) h hce hx hm
theorem cs_track {ax ay bx by' cx cy : Int} (h : Rel σ τ) (hce : cE σ (pM (τ 1))) (hx : ∃ σ1 s', pcopied σ σ1 1 (10 + 7 * σ 8 1) ∧ r = some (.inl (oT ax ay bx by' cx cy σ1).1) ∧ σ' = ov (fin (oT ax ay bx by' cx cy σ1)) s') (hm : ∃ z, r' = some z ∧ (z = .inl (oT ax ay bx by' cx cy (pM (τ 1))).1 ∧ chM τ (oT ax ay bx by' cx cy (pM (τ 1))) τ')) : RES r r' σ' τ' :=
  cs_op (op := oT ax ay bx by' cx cy) (fun _ _ h => oT_c h) (fun _ h => IPs_oT h) (fun _ _ h => oT_o h) (fun σ hI h => doP_neg (c := 116) (rd := fun j => if j = 0 then ax else if j = 1 then ay else if j = 2 then bx else if j = 3 then by' else if j = 4 then cx else cy) hI h) h hce hx hm
theorem cs_kind {t k : Int} (h : Rel σ τ) (hce : cE σ (pM (τ 1))) (hx : ∃ σ1 s', pcopied σ σ1 1 (10 + 7 * σ 8 1) ∧ r = some (.inl (oK t k σ1).1) ∧ σ' = ov (fin (oK t k σ1)) s') (hm : ∃ z, r' = some z ∧ (z = .inl (oK t k (pM (τ 1))).1 ∧ chM τ (oK t k (pM (τ 1))) τ')) : RES r r' σ' τ' :=
  cs_op (op := oK t k) (fun _ _ h => oK_cc h) (fun _ h => IPs_oK h) (fun _ _ h => oK_o h) (fun σ hI h => doP_neg (c := 107) (rd := fun j => if j = 0 then t else k) hI h) h hce hx hm
theorem cs_vertex {x y a b : Int} (h : Rel σ τ) (hce : cE σ (pM (τ 1))) (hx : ∃ σ1 s', pcopied σ σ1 1 (10 + 7 * σ 8 1) ∧ r = some (.inl (oV x y a b σ1).1) ∧ σ' = ov (fin (oV x y a b σ1)) s') (hm : ∃ z, r' = some z ∧ (z = .inl (oV x y a b (pM (τ 1))).1 ∧ chM τ (oV x y a b (pM (τ 1))) τ')) : RES r r' σ' τ' :=
  cs_op (op := oV x y a b) (fun _ _ h => oV_cc h) (fun _ h => IPs_oV h) (fun _ _ h => oV_o h) (fun σ hI h => doP_neg (c := 118) (rd := fun j => if j = 0 then x else if j = 1 then y else if j = 2 then a else b) hI h) h hce hx hm
theorem cs_drop (h : Rel σ τ) (hce : cE σ (pM (τ 1))) (hx : ∃ σ1 s', pcopied σ σ1 1 (10 + 7 * σ 8 1) ∧ r = some (.inl (oD σ1).1) ∧ σ' = ov (fin (oD σ1)) s') (hm : ∃ z, r' = some z ∧ (z = .inl (oD (pM (τ 1))).1 ∧ chM τ (oD (pM (τ 1))) τ')) : RES r r' σ' τ' :=
  cs_op (op := oD) (fun _ _ h => oD_c h) (fun _ h => IPs_oD h) (fun _ _ h => oD_o h) (fun _ hI h => oD_neg hI h) h hce hx hm
theorem cs_wipe (h : Rel σ τ) (hce : cE σ (pM (τ 1))) (hx : ∃ σ1 s', pcopied σ σ1 1 (10 + 7 * σ 8 1) ∧ r = some (.inl (oW σ1).1) ∧ σ' = ov (fin (oW σ1)) s') (hm : ∃ z, r' = some z ∧ (z = .inl (oW (pM (τ 1))).1 ∧ chM τ (oW (pM (τ 1))) τ')) : RES r r' σ' τ' :=
  cs_op (op := oW) (fun _ _ h => oW_c h) (fun _ h => IPs_oW h) (fun _ _ h => oW_o h) (fun _ hI h => oW_neg hI h) h hce hx hm
end CS
