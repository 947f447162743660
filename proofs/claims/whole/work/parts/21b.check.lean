theorem lJ0_1059w : Cond.methodLink RJ0 1059 yJ3_checkIndex_8e157 ∈ q_words := (q_mem 909 (by decide +kernel) (by decide +kernel))
theorem chk_w : Cond.fieldLink RJ0 1053 "jdk/internal/util/Preconditions" "SIOOBE_FORMATTER" "Ljava/util/function/BiFunction;" ∈ q_words := sJ0_1053
set_option maxHeartbeats 1000000 in
theorem met_chk (l : Launch) (i k : Int) (v : Value) (hv : v.category = 1) (h : 0 ≤ i ∧ i < k) (hi : q_i32 i) (hk : q_i32 k) : Met l (q_nm mJ3_checkIndex_8e157) (q_ws mJ3_checkIndex_8e157) (q_rm mJ3_checkIndex_8e157) (va_Pc [.int (Int32.ofInt i), .int (Int32.ofInt k), v] (fun _ => True))
    (fun _ st o t => o = .returned (some (.int (Int32.ofInt i))) ∧ t.heap = st.heap) 0 0 (fun _ => False) := by
  refine Met.ofW (cc := cJ3_checkIndex_8e157) (maxL := 3) (ret := some .int) (by decide) rfl ?_
  intro p e s m args below meth c s₁ B hml hv0
  obtain ⟨rfl, -⟩ := hv0
  have hx := B.exec
  have hb := B.bytes
  have hr := B.returns
  have hlocks := B.notSynchronized
  have hlen : (lg_sl [.int (Int32.ofInt i), .int (Int32.ofInt k), v]).length ≤ 3 := by
    have h2 : ∀ u : Value, u.category = 1 → (if u.category = 2 then [Slot.val u, Slot.second] else [Slot.val u]).length = 1 := fun u hu => by rw [hu]; rfl
    simp only [lg_sl, List.flatMap_cons, List.flatMap_nil, List.length_append, List.append_nil, h2 v hv, h2 (.int (Int32.ofInt i)) rfl, h2 (.int (Int32.ofInt k)) rfl]
    decide
  have hl := lv_entry [.int (Int32.ofInt i), .int (Int32.ofInt k), v] (n := 3) hlen
  rw [lg_entry_eq]
  generalize (lg_sl [.int (Int32.ofInt i), .int (Int32.ofInt k), v] ++ List.replicate (3 - (lg_sl [.int (Int32.ofInt i), .int (Int32.ofInt k), v]).length) Slot.unset).toArray = ls at hl ⊢
  have hl : lv_has ls 3 [(0, .int (Int32.ofInt i)), (1, .int (Int32.ofInt k)), (2, v)] := hl
  refine lv_iload_n hx hb dJ3_checkIndex_8e157_0 rfl (lv_at hl 0 rfl) ?_
  refine lv_if_lt (tgt := 9) hx hb dJ3_checkIndex_8e157_1 (by decide) (fun hc => ?_) (fun _ => ?_)
  · exact absurd ((q_lt hi q_0).mp hc) (by omega)
  refine lv_iload_n hx hb dJ3_checkIndex_8e157_4 rfl (lv_at hl 0 rfl) ?_
  refine lv_iload_n hx hb dJ3_checkIndex_8e157_5 rfl (lv_at hl 1 rfl) ?_
  refine lv_icmp_lt (tgt := 16) hx hb dJ3_checkIndex_8e157_6 (by decide) (fun _ => ?_) (fun hc => ?_)
  · refine lv_iload_n hx hb dJ3_checkIndex_8e157_16 rfl (lv_at hl 0 rfl) ?_
    exact W.iret hx hb hr (fun t ht hW => ⟨rfl, ht⟩) (fun q h => by cases h) dJ3_checkIndex_8e157_17
  · exact absurd ((q_lt hi hk).mpr h.2) hc
set_option maxHeartbeats 1000000 in
theorem q_chk {M : q_M} {sh : q_H} {pc n : Nat} {ls : List (Option q_V)} {st : List q_V} {σ : q_S} {Q : Option q_V → q_S → Prop} {i k : Int} (hd1 : decode (q_cc M) pc = .ok (.getstatic 1053, 3)) (hd2 : decode (q_cc M) (pc + 3) = .ok (.invokestatic 1059, 3)) (hn : pc + 3 + 3 = n) (ho : q_own M = RJ0) (hdp : 1 ≤ q_dp M) (hw : Nat.ble (q_sum st) 8 = true) (h : 0 ≤ i ∧ i < k) (kk : q_WP M sh n ls (.inl i :: st) σ Q) : q_WP M sh pc ls (.inl k :: .inl i :: st) σ Q := by
  subst hn
  intro p l e s m args below meth c D cs ad H locs la Qf E L O
  have hown := E.1.2.2.2.1
  rw [ho] at hown
  have k' := kk p l e s m args below meth c D cs ad H locs la Qf E L ⟨O.2.1, O.2.2⟩
  have go : ∀ v : Value, v.category = 1 → W p l e (q_rm M) s m args below meth c H locs 0 0 Qf (F0 m (pc + 3) la (v :: .int (Int32.ofInt k) :: .int (Int32.ofInt i) :: st.map (q_cv ad))) := by
    intro v hv
    have hm := vJ3_checkIndex_8e157
    have hlk : Cond.methodLink RJ0 1059 yJ3_checkIndex_8e157 ∈ q_words := lJ0_1059w
    have hrun := va_runS (p := p) (l := l) (e := e) (R := q_rm M) (s := s) (m := m) (args := args) (below := below) (meth := meth) (c := c) (H := H) (locs := locs) (cells := 0) (slots := 0) (nL := q_nL M) (cc := q_cc M) (Ts := q_ws M) (own := RJ0) (As := [.int (Int32.ofInt i), .int (Int32.ofInt k), v]) (rest := st.map (q_cv ad)) (g := F0 m (pc + 3) la (v :: .int (Int32.ofInt k) :: .int (Int32.ofInt i) :: st.map (q_cv ad)))
      ⟨E.1.1, E.1.2.1, E.1.2.2.1, hown, E.1.2.2.2.2.1⟩ (met_chk l i k v hv h O.2.1 O.1)
      ⟨callB_of 3 E.1.2.2.2.2.1 (q_good hm.1) rfl rfl rfl (q_hw E.1.2.2.2.2.1 hm.1.2.1) (q_hw E.1.2.2.2.2.1 hlk) hm.1.2.2.1 ⟨hdp, by show 8 + (3 + 11) + 64 * 0 ≤ 64 * q_dp M; omega⟩, q_hw E.1.2.2.2.2.1 hm.2⟩
      ⟨fun a U g mk q => q, fun U hU hW => ⟨rfl, trivial⟩⟩ rfl rfl L.1 rfl (lv_room (by rw [q_sum_eq]; exact Nat.le_of_ble_eq_true hw)) hd2 ⟨Nat.le_refl _, Nat.le_refl _⟩
    intro T hT X
    obtain ⟨v2, st₀, t, T', L', h0, X', hL, e1, e2, ⟨hv2, hh⟩, go⟩ := hrun T hT X
    cases hv2
    have hL0 : L' = [] := by
      cases L' with
      | nil => rfl
      | cons a r => exact absurd (hL a List.mem_cons_self) (fun z => z)
    subst hL0
    rw [List.append_nil] at X'
    have hTH : T'.heap = H := by rw [e1, hh, h0]
    obtain ⟨t2, a1, b1⟩ := k' T' hTH X'
    exact ⟨t2, go t2 a1, b1⟩
  rcases E.1.2.2.2.2.2.2.2.1.2.2.2.2.2.2.2.2.2 with hz | ⟨t, hz⟩
  · exact va_gets E.1.1 E.1.2.1 hz E.2.1.2.2 hown (q_hw E.1.2.2.2.2.1 chk_w) (fun _ h => h) hd1 (go .null rfl)
  · exact va_gets E.1.1 E.1.2.1 hz E.2.1.2.2 hown (q_hw E.1.2.2.2.2.1 chk_w) (fun _ h => h) hd1 (go (.ref t) rfl)
theorem nar_char {x : Int} (h : 0 ≤ x ∧ x < 65536) : narrow .char (.int (Int32.ofInt x)) = .int (Int32.ofInt x) := by
  obtain ⟨n, rfl⟩ := Int.eq_ofNat_of_zero_le h.1
  exact (pk_charN (q := n) (by omega)).1
theorem let_rng {i : Int} (h : 0 ≤ i ∧ i < 12) : (0 ≤ q_let.getD i.toNat 0 ∧ q_let.getD i.toNat 0 < 128) ∧ q_and (q_let.getD i.toNat 0) 255 = q_let.getD i.toNat 0 := by
  have h0 : ∀ k : Fin 12, (0 ≤ q_let.getD k.val 0 ∧ q_let.getD k.val 0 < 128) ∧ q_and (q_let.getD k.val 0) 255 = q_let.getD k.val 0 := by decide +kernel
  exact h0 ⟨i.toNat, by omega⟩
