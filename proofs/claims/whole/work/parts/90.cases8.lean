/-! the law's cases, whole: both contracts, and what they say together -/
def CS (kd : Int → q_V) (MX MM : q_M) (av : List q_V) : Prop := ∀ (ω τ s : q_S), Rel ω τ → cE ω (pM (τ 1)) → tT ω = tT (tx τ) → ∃ Q Q' : Option q_V → q_S → Prop, q_Ct MX shX (.inr (.inr 0) :: av) ω Q ∧ q_Ct MM shM (.inr (.inr 0) :: av) (ovM τ s) Q' ∧ (∀ r σ', Q r σ' → ∃ z, r = some (kd z)) ∧ ∀ r σ' r' τ', Q r σ' → Q' r' τ' → RES r r' σ' τ'
abbrev kI : Int → q_V := fun z => Sum.inl z
abbrev kJ : Int → q_V := fun z => Sum.inr (Sum.inl z)
theorem ctX {M : q_M} {av : List q_V} {ω : q_S} {Q : Option q_V → q_S → Prop} (h : q_Ct M shX av (ov ω ω) Q) : q_Ct M shX av ω Q := by
  rw [ov_id] at h
  exact h
theorem rL_s {ω τ : q_S} (h : Rel ω τ) : ∀ l : Int, 0 ≤ l → l < 3 → ω (104 + 2 * l) 1 = τ 18 l ∧ ω (104 + 2 * l) 1 ≤ 24 ∧ ag 24 (ω (104 + 2 * l + 1)) (fun j => τ 19 (24 * l + j)) := fun l l0 l1 => ⟨(h.2.2.2.2.2.2 l l0 l1).1, (h.1.1.2.2.2.2.2.2 l l0 l1).2, fun j j0 j1 => (h.2.2.2.2.2.2 l l0 l1).2 j j0 j1⟩
theorem C_field (x : Int) : CS kI mX7_field mX8_field [.inl x] := by
  intro ω τ s h hce hT
  refine ⟨_, _, ctX (zX7_field x ω ω h.1.1), zX8_field x τ s h.1.2, fun r σ' hq => ?_, fun r σ' r' τ' hx hm => ?_⟩
  · obtain ⟨_, _, _, hr, _⟩ := hq
    exact ⟨_, hr⟩
  · exact cs_field h hce hx hm
theorem C_track (ax ay bx by' cx cy : Int) : CS kI mX7_track mX8_track [.inl ax, .inl ay, .inl bx, .inl by', .inl cx, .inl cy] := by
  intro ω τ s h hce hT
  refine ⟨_, _, ctX (zX7_track ax ay bx by' cx cy ω ω h.1.1), zX8_track ax ay bx by' cx cy τ s h.1.2, fun r σ' hq => ?_, fun r σ' r' τ' hx hm => ?_⟩
  · obtain ⟨_, _, _, hr, _⟩ := hq
    exact ⟨_, hr⟩
  · exact cs_track h hce hx hm
theorem C_kind (t k : Int) : CS kI mX7_kind mX8_kind [.inl t, .inl k] := by
  intro ω τ s h hce hT
  refine ⟨_, _, ctX (zX7_kind t k ω ω h.1.1), zX8_kind t k τ s h.1.2, fun r σ' hq => ?_, fun r σ' r' τ' hx hm => ?_⟩
  · obtain ⟨_, _, _, hr, _⟩ := hq
    exact ⟨_, hr⟩
  · exact cs_kind h hce hx hm
theorem C_vertex (x y a b : Int) : CS kI mX7_vertex mX8_vertex [.inl x, .inl y, .inl a, .inl b] := by
  intro ω τ s h hce hT
  refine ⟨_, _, ctX (zX7_vertex x y a b ω ω h.1.1), zX8_vertex x y a b τ s h.1.2, fun r σ' hq => ?_, fun r σ' r' τ' hx hm => ?_⟩
  · obtain ⟨_, _, _, hr, _⟩ := hq
    exact ⟨_, hr⟩
  · exact cs_vertex h hce hx hm
theorem C_drop : CS kI mX7_drop mX8_drop [] := by
  intro ω τ s h hce hT
  refine ⟨_, _, ctX (zX7_drop ω ω h.1.1), zX8_drop τ s h.1.2, fun r σ' hq => ?_, fun r σ' r' τ' hx hm => ?_⟩
  · obtain ⟨_, _, _, hr, _⟩ := hq
    exact ⟨_, hr⟩
  · exact cs_drop h hce hx hm
theorem C_wipe : CS kI mX7_wipe mX8_wipe [] := by
  intro ω τ s h hce hT
  refine ⟨_, _, ctX (zX7_wipe ω ω h.1.1), zX8_wipe τ s h.1.2, fun r σ' hq => ?_, fun r σ' r' τ' hx hm => ?_⟩
  · obtain ⟨_, _, _, hr, _⟩ := hq
    exact ⟨_, hr⟩
  · exact cs_wipe h hce hx hm
theorem C_trackOf (t x : Int) : CS kI mX7_trackOf mX8_trackOf [.inl t, .inl x] := by
  intro ω τ s h hce hT
  refine ⟨_, _, ctX (zX7_trackOf t x ω ω h.1.1), zX8_trackOf t x τ s h.1.2, fun r σ' hq => ?_, fun r σ' r' τ' hx hm => ?_⟩
  · exact ⟨_, hq.1⟩
  · refine cs_q h (congrArg kI ?_) hx hm
    rw [cE_1 hce, cE_2 hce, cE_3 hce]
    rfl
theorem C_bend (t : Int) : CS kJ mX7_bend mX8_bend [.inl t] := by
  intro ω τ s h hce hT
  refine ⟨_, _, ctX (zX7_bend t ω ω h.1.1), zX8_bend t τ s h.1.2, fun r σ' hq => ?_, fun r σ' r' τ' hx hm => ?_⟩
  · exact ⟨_, hq.1⟩
  · refine cs_q h (congrArg kJ ?_) hx hm
    rw [cE_1 hce, cE_2 hce]
    rfl
theorem C_vertexOf (v x : Int) : CS kI mX7_vertexOf mX8_vertexOf [.inl v, .inl x] := by
  intro ω τ s h hce hT
  refine ⟨_, _, ctX (zX7_vertexOf v x ω ω h.1.1), zX8_vertexOf v x τ s h.1.2, fun r σ' hq => ?_, fun r σ' r' τ' hx hm => ?_⟩
  · exact ⟨_, hq.1⟩
  · refine cs_q h (congrArg kI ?_) hx hm
    rw [cE_1 hce, hce 4 (by decide) (by decide), hce 5 (by decide) (by decide), cE_6 hce, cE_7 hce]
    rfl
theorem C_numbers (k x : Int) : CS kI mX7_numbers mX8_numbers [.inl k, .inl x] := by
  intro ω τ s h hce hT
  refine ⟨_, _, ctX (zX7_numbers k x ω ω h.1.1), zX8_numbers k x τ s h.1.2, fun r σ' hq => ?_, fun r σ' r' τ' hx hm => ?_⟩
  · exact ⟨_, hq.1⟩
  · exact cs_q h rfl hx hm
theorem C_count (x : Int) : CS kI mX7_count mX8_count [.inl x] := by
  intro ω τ s h hce hT
  refine ⟨_, _, ctX (zX7_count x ω ω h.1.1), zX8_count x τ s h.1.2, fun r σ' hq => ?_, fun r σ' r' τ' hx hm => ?_⟩
  · exact ⟨_, hq.1⟩
  · refine cs_q h (congrArg kI ?_) hx hm
    rw [cE_1 hce, cE_3 hce, h.2.2.1.1, h.2.2.2.2.1.1, h.2.2.2.2.2.1.1]
    rfl
theorem C_centre (t a k : Int) : CS kJ mX7_centre mX8_centre [.inl t, .inl a, .inl k] := by
  intro ω τ s h hce hT
  refine ⟨_, _, ctX (zX7_centre t a k ω ω h.1.1), zX8_centre t a k τ s h.1.2, fun r σ' hq => ?_, fun r σ' r' τ' hx hm => ?_⟩
  · exact ⟨_, hq.1⟩
  · refine cs_q h (congrArg kJ ?_) hx hm
    rw [cE_1 hce, cE_2 hce]
    rfl
theorem C_on (t x y : Int) : CS kI mX7_on mX8_on [.inl t, .inl x, .inl y] := by
  intro ω τ s h hce hT
  refine ⟨_, _, ctX (zX7_on t x y ω ω h.1.1), zX8_on t x y τ s h.1.2, fun r σ' hq => ?_, fun r σ' r' τ' hx hm => ?_⟩
  · exact ⟨_, hq.1⟩
  · refine cs_q h (congrArg kI ?_) hx hm
    rw [cE_1 hce, cE_2 hce]
    rfl
theorem C_meets (a b k : Int) : CS kI mX7_meets mX8_meets [.inl a, .inl b, .inl k] := by
  intro ω τ s h hce hT
  refine ⟨_, _, ctX (zX7_meets a b k ω ω h.1.1), zX8_meets a b k τ s h.1.2, fun r σ' hq => ?_, fun r σ' r' τ' hx hm => ?_⟩
  · exact ⟨_, hq.1⟩
  · refine cs_q h (congrArg kI ?_) hx hm
    rw [cE_1 hce, cE_2 hce]
    rfl
theorem C_push (t x y a k : Int) : CS kJ mX7_push mX8_push [.inl t, .inl x, .inl y, .inl a, .inl k] := by
  intro ω τ s h hce hT
  refine ⟨_, _, ctX (zX7_push t x y a k ω ω h.1.1), zX8_push t x y a k τ s h.1.2, fun r σ' hq => ?_, fun r σ' r' τ' hx hm => ?_⟩
  · exact ⟨_, hq.1⟩
  · refine cs_q h (congrArg kJ ?_) hx hm
    rw [cE_1 hce, cE_2 hce]
    rfl
theorem C_fits (x y : Int) : CS kI mX7_fits mX8_fits [.inl x, .inl y] := by
  intro ω τ s h hce hT
  refine ⟨_, _, ctX (zX7_fits x y ω ω h.1.1), zX8_fits x y τ s h.1.2, fun r σ' hq => ?_, fun r σ' r' τ' hx hm => ?_⟩
  · exact ⟨_, hq.1⟩
  · refine cs_q h (congrArg kI ?_) ⟨hx.1, hx.2.elim fun s2 h2 => ⟨s2, h2.1⟩⟩ hm
    rw [cE_1 hce, cE_2 hce]
    rfl
theorem C_through : CS kI mX7_through mX8_through [] := by
  intro ω τ s h hce hT
  refine ⟨_, _, ctX (zX7_through ω ω h.1.1), zX8_through τ s h.1.2, fun r σ' hq => ?_, fun r σ' r' τ' hx hm => ?_⟩
  · exact ⟨_, hq.1⟩
  · refine cs_q h (congrArg kI ?_) hx hm
    rw [cE_1 hce, cE_2 hce]
    rfl
theorem C_lost (v x k : Int) : CS kJ mX7_lost mX8_lost [.inl v, .inl x, .inl k] := by
  intro ω τ s h hce hT
  refine ⟨_, _, ctX (zX7_lost v x k ω ω h.1.1), zX8_lost v x k τ s h.1.2, fun r σ' hq => ?_, fun r σ' r' τ' hx hm => ?_⟩
  · exact ⟨_, hq.1⟩
  · refine cs_q h (congrArg kJ ?_) hx hm
    rw [cE_1 hce, cE_2 hce, hce 4 (by decide) (by decide), hce 5 (by decide) (by decide), cE_6 hce, cE_7 hce]
    rfl
theorem C_even (v : Int) : CS kI mX7_even mX8_even [.inl v] := by
  intro ω τ s h hce hT
  refine ⟨_, _, ctX (zX7_even v ω ω h.1.1), zX8_even v τ s h.1.2, fun r σ' hq => ?_, fun r σ' r' τ' hx hm => ?_⟩
  · exact ⟨_, hq.1⟩
  · refine cs_q h (congrArg kI ?_) hx hm
    rw [cE_1 hce, cE_2 hce, hce 4 (by decide) (by decide), hce 5 (by decide) (by decide), cE_6 hce, cE_7 hce]
    rfl
theorem C_came (v : Int) : CS kI mX7_came mX8_came [.inl v] := by
  intro ω τ s h hce hT
  refine ⟨_, _, ctX (zX7_came v ω ω h.1.1), zX8_came v τ s h.1.2, fun r σ' hq => ?_, fun r σ' r' τ' hx hm => ?_⟩
  · exact ⟨_, hq.1⟩
  · refine cs_q h (congrArg kI ?_) hx hm
    rw [cE_1 hce, cE_2 hce, hce 4 (by decide) (by decide), hce 5 (by decide) (by decide), cE_6 hce, cE_7 hce]
    rfl
theorem C_spoils (v : Int) : CS kI mX7_spoils mX8_spoils [.inl v] := by
  intro ω τ s h hce hT
  refine ⟨_, _, ctX (zX7_spoils v ω ω h.1.1), zX8_spoils v τ s h.1.2, fun r σ' hq => ?_, fun r σ' r' τ' hx hm => ?_⟩
  · exact ⟨_, hq.1⟩
  · refine cs_q h (congrArg kI ?_) hx hm
    rw [cE_1 hce, cE_2 hce, hce 4 (by decide) (by decide), hce 5 (by decide) (by decide), cE_6 hce, cE_7 hce]
    rfl
theorem C_holds (v L u w : Int) : CS kI mX7_holds mX8_holds [.inl v, .inl L, .inl u, .inl w] := by
  intro ω τ s h hce hT
  refine ⟨_, _, ctX (zX7_holds v L u w ω ω h.1.1), zX8_holds v L u w τ s h.1.2, fun r σ' hq => ?_, fun r σ' r' τ' hx hm => ?_⟩
  · exact ⟨_, hq.1⟩
  · refine cs_q h (congrArg kI ?_) hx hm
    rw [cE_1 hce, cE_2 hce, cE_3 hce, cE_6 hce, cE_7 hce]
    rfl
theorem C_names (v L w k : Int) : CS kI mX7_names mX8_names [.inl v, .inl L, .inl w, .inl k] := by
  intro ω τ s h hce hT
  refine ⟨_, _, ctX (zX7_names v L w k ω ω h.1.1), zX8_names v L w k τ s h.1.2, fun r σ' hq => ?_, fun r σ' r' τ' hx hm => ?_⟩
  · exact ⟨_, hq.1⟩
  · refine cs_q h (congrArg kI ?_) hx hm
    rw [cE_1 hce, cE_2 hce, cE_3 hce, cE_6 hce, cE_7 hce]
    rfl
theorem C_calls (v L w : Int) : CS kI mX7_calls mX8_calls [.inl v, .inl L, .inl w] := by
  intro ω τ s h hce hT
  refine ⟨_, _, ctX (zX7_calls v L w ω ω h.1.1), zX8_calls v L w τ s h.1.2, fun r σ' hq => ?_, fun r σ' r' τ' hx hm => ?_⟩
  · exact ⟨_, hq.1⟩
  · exact cs_calls h hce hx hm
theorem C_rest (L : Int) : CS kI mX7_rest mX8_rest [.inl L] := by
  intro ω τ s h hce hT
  refine ⟨_, _, ctX (zX7_rest L ω ω h.1.1), zX8_rest L τ s h.1.2, fun r σ' hq => ?_, fun r σ' r' τ' hx hm => ?_⟩
  · exact ⟨_, hq.1⟩
  · refine cs_q h (congrArg kI ?_) hx hm
    rw [cE_1 hce, cE_2 hce, cE_3 hce, cE_6 hce, cE_7 hce]
    rfl
theorem C_energy (t x y k : Int) : CS kJ mX7_energy mX8_energy [.inl t, .inl x, .inl y, .inl k] := by
  intro ω τ s h hce hT
  refine ⟨_, _, ctX (zX7_energy t x y k ω ω h.1.1), zX8_energy t x y k τ s h.1.2, fun r σ' hq => ?_, fun r σ' r' τ' hx hm => ?_⟩
  · exact ⟨_, hq.1⟩
  · refine cs_q h (congrArg kJ ?_) hx hm
    rw [cE_1 hce, cE_2 hce]
    rfl
theorem C_heat (v x : Int) : CS kJ mX7_heat mX8_heat [.inl v, .inl x] := by
  intro ω τ s h hce hT
  refine ⟨_, _, ctX (zX7_heat v x ω ω h.1.1), zX8_heat v x τ s h.1.2, fun r σ' hq => ?_, fun r σ' r' τ' hx hm => ?_⟩
  · exact ⟨_, hq.1⟩
  · refine cs_q h (congrArg kJ ?_) hx hm
    rw [cE_1 hce, cE_2 hce, cE_3 hce, hce 4 (by decide) (by decide), hce 5 (by decide) (by decide), cE_6 hce, cE_7 hce]
    rfl
theorem C_evens (v : Int) : CS kI mX7_evens mX8_evens [.inl v] := by
  intro ω τ s h hce hT
  refine ⟨_, _, ctX (zX7_evens v ω ω h.1.1), zX8_evens v τ s h.1.2, fun r σ' hq => ?_, fun r σ' r' τ' hx hm => ?_⟩
  · exact ⟨_, hq.1⟩
  · refine cs_q h (congrArg kI ?_) hx hm
    rw [cE_1 hce, cE_2 hce, cE_3 hce, hce 4 (by decide) (by decide), hce 5 (by decide) (by decide), cE_6 hce, cE_7 hce]
    rfl
theorem C_feed (x : Int) : CS kI mX7_feed mX8_feed [.inl x] := by
  intro ω τ s h hce hT
  refine ⟨_, _, zX7_feed x ω h.1.1.2.2.2.1, zX8_feed x τ s h.1.2, fun r σ' hq => ?_, fun r σ' r' τ' hx hm => ?_⟩
  · obtain ⟨v, hr, hq⟩ := hq
    rcases hq with ⟨⟨_, b⟩ | ⟨_, _, b⟩, _⟩ | ⟨_, _, b, _⟩ <;> exact ⟨_, by rw [hr, b]⟩
  · exact cs_feed h hx hm
theorem C_reads : CS kI mX7_reads mX8_reads [] := by
  intro ω τ s h hce hT
  refine ⟨_, _, ctX (zX7_reads ω ω h.1.1), zX8_reads τ s h.1.2, fun r σ' hq => ?_, fun r σ' r' τ' hx hm => ?_⟩
  · rcases hq with ⟨_, b, _⟩ | ⟨_, _, _, b, _⟩ <;> exact ⟨_, b⟩
  · exact cs_reads h hce hT hx hm
theorem C_prints (v : Int) : CS kI mX7_prints mX8_prints [.inl v] := by
  intro ω τ s h hce hT
  refine ⟨_, _, ctX (zX7_prints v ω ω h.1.1), zX8_prints v τ s h.1.2, fun r σ' hq => ?_, fun r σ' r' τ' hx hm => ?_⟩
  · rcases hq with ⟨_, b, _⟩ | ⟨_, b, _⟩ <;> exact ⟨_, b⟩
  · exact cs_prints h hce hx hm
theorem C_paper (i : Int) : CS kI mX7_paper mX8_paper [.inl i] := by
  intro ω τ s h hce hT
  refine ⟨_, _, ctX (zX7_paper i ω ω h.1.1), zX8_paper i τ s h.1.2, fun r σ' hq => ?_, fun r σ' r' τ' hx hm => ?_⟩
  · exact ⟨_, hq.1⟩
  · exact cs_q h (congrArg kI (by rw [h.2.2.2.2.2.1.1]; exact fPaper_ag h.2.2.2.2.2.1.2)) hx ⟨hm.1, s, hm.2⟩
theorem C_list (l n : Int) : CS kI mX7_list mX8_list [.inl l, .inl n] := by
  intro ω τ s h hce hT
  refine ⟨_, _, zX7_list l n ω, zX8_list l n τ s h.1.2, fun r σ' hq => ?_, fun r σ' r' τ' hx hm => ?_⟩
  · obtain ⟨v, hr, hq⟩ := hq
    rcases hq with ⟨_, b, _⟩ | ⟨_, b, _⟩ | ⟨_, b, _⟩ <;> exact ⟨_, by rw [hr, b]⟩
  · exact cs_list h hx hm
theorem C_set (l i x : Int) : CS kI mX7_set mX8_set [.inl l, .inl i, .inr (.inl x)] := by
  intro ω τ s h hce hT
  refine ⟨_, _, zX7_set l i x ω h.1.1.2.2.2.2.2.2, zX8_set l i x τ s h.1.2, fun r σ' hq => ?_, fun r σ' r' τ' hx hm => ?_⟩
  · obtain ⟨v, hr, hq⟩ := hq
    rcases hq with ⟨_, b, _⟩ | ⟨_, b, _⟩ | ⟨_, b, _⟩ | ⟨_, b, _⟩ <;> exact ⟨_, by rw [hr, b]⟩
  · exact cs_set h hx hm
theorem C_get (l i : Int) : CS kJ mX7_get mX8_get [.inl l, .inl i] := by
  intro ω τ s h hce hT
  refine ⟨_, _, zX7_get l i ω h.1.1.2.2.2.2.2.2, zX8_get l i τ s h.1.2, fun r σ' hq => ?_, fun r σ' r' τ' hx hm => ?_⟩
  · exact ⟨_, hq.1⟩
  · exact cs_q h (congrArg kJ (fGet_ag (rL_s h))) ⟨hx.1, ω, by rw [hx.2, ov_id]⟩ ⟨hm.1, s, hm.2⟩
theorem C_into (v l p : Int) : CS kI mX7_into mX8_into [.inl v, .inl l, .inl p] := by
  intro ω τ s h hce hT
  refine ⟨_, _, ctX (zX7_into v l p ω ω h.1.1), zX8_into v l p τ s h.1.2, fun r σ' hq => ?_, fun r σ' r' τ' hx hm => ?_⟩
  · obtain ⟨v, hr, hq⟩ := hq
    rcases hq with ⟨_, b, _⟩ | ⟨_, b, _⟩ | ⟨_, b, _⟩ | ⟨_, b, _⟩ | ⟨_, b, _⟩ <;> exact ⟨_, by rw [hr, b]⟩
  · exact cs_into h hce hx hm
theorem C_judge (v l p : Int) : CS kI mX7_judge mX8_judge [.inl v, .inl l, .inl p] := by
  intro ω τ s h hce hT
  refine ⟨_, _, ctX (zX7_judge v l p ω ω h.1.1), zX8_judge v l p τ s h.1.2, fun r σ' hq => ?_, fun r σ' r' τ' hx hm => ?_⟩
  · exact ⟨_, hq.1⟩
  · refine cs_q h (congrArg kI ?_) hx hm
    rw [cE_1 hce, cE_2 hce, hce 4 (by decide) (by decide), hce 5 (by decide) (by decide), cE_6 hce, cE_7 hce]
    exact fJudge_ag (rL_s h)
theorem C_undo : CS kI mX7_undo mX8_undo [] := by
  intro ω τ s h hce hT
  refine ⟨_, _, zX7_undo ω h.1.1, zX8_undo τ s h.1.2, fun r σ' hq => ?_, fun r σ' r' τ' hx hm => ?_⟩
  · rcases hq with ⟨_, b, _⟩ | ⟨_, b, _⟩ <;> exact ⟨_, b⟩
  · exact cs_undo h hx hm
theorem C_image : CS kI mX7_image mX8_image [] := by
  intro ω τ s h hce hT
  refine ⟨_, _, zX7_image ω, zX8_image τ s h.1.2, fun r σ' hq => ?_, fun r σ' r' τ' hx hm => ?_⟩
  · exact ⟨_, hq.1⟩
  · exact cs_image h hx hm
theorem C_back : CS kI mX7_back mX8_back [] := by
  intro ω τ s h hce hT
  refine ⟨_, _, zX7_back ω, zX8_back τ s h.1.2, fun r σ' hq => ?_, fun r σ' r' τ' hx hm => ?_⟩
  · rcases hq with ⟨_, b, _⟩ | ⟨_, b, _⟩ <;> exact ⟨_, b⟩
  · exact cs_back h hx hm
