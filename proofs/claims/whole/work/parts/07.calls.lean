/-- a method's contract: from a world with σ and these arguments it answers r and leaves σ' with Q r σ' -/
def q_Ct (M : q_M) (sh : q_H) (av : List q_V) (σ : q_S) (Q : Option q_V → q_S → Prop) : Prop :=
  ∀ (l : Launch) (D : va_G) (cs : Nat → ClassId) (ad : Int → Nat), q_oks av → q_rng sh σ → q_inj ad sh.1 →
    Met l (q_nm M) (q_ws M) (q_rm M) (va_Pc (av.map (q_cv ad)) (fun U => va_P D vwCl (q_wld ad cs sh σ) U.heap ∧ va_K D vwCl (q_tys cs) U ∧ q_N U ∧ q_St ad (q_A ad sh.1) U U.heap))
      (fun _ st o t => (∃ (r : Option q_V) (σ' : q_S), Q r σ' ∧ q_oks r.toList ∧ q_rng sh σ' ∧ o = .returned (r.map (q_cv ad)) ∧ va_P D vwCl (q_wld ad cs sh σ') t.heap) ∧ va_F (q_A ad sh.1) st t) 0 0 (q_A ad sh.1)
/-- the locals at a method's entry -/
def q_ent : List q_V → List (Option q_V)
  | [] => []
  | .inr (.inl x) :: r => some (.inr (.inl x)) :: none :: q_ent r
  | .inl x :: r => some (.inl x) :: q_ent r
  | .inr (.inr x) :: r => some (.inr (.inr x)) :: q_ent r
theorem q_ent_len (ad : Int → Nat) : ∀ av : List q_V, (lg_sl (av.map (q_cv ad))).length = (q_ent av).length := by
  intro av
  induction av with
  | nil => rfl
  | cons v r ih =>
    have h : ∀ (a : Value) (l : List Value), (lg_sl (a :: l)).length = (if a.category = 2 then 2 else 1) + (lg_sl l).length := by
      intro a l
      simp only [lg_sl, List.flatMap_cons, List.length_append]
      split <;> rfl
    rw [List.map_cons, h, ih]
    rcases v with x | x | x <;> simp [q_ent, q_cv, Value.category] <;> omega
theorem q_ent_at (ad : Int → Nat) : ∀ (av : List q_V) (b i : Nat) (v : q_V), (q_ent av)[i]? = some (some v) → (b + i, q_cv ad v) ∈ lv_args b (av.map (q_cv ad)) ∧ v ∈ av := by
  intro av
  induction av with
  | nil => intro b i v h; simp [q_ent] at h
  | cons u r ih =>
    intro b i v h
    rcases u with x | x | x
    · cases i with
      | zero => simp [q_ent] at h; subst h; simp [lv_args]
      | succ i =>
        have := ih (b + 1) i v (by simpa [q_ent] using h)
        rw [show b + 1 + i = b + (i + 1) by omega] at this
        exact ⟨List.mem_cons_of_mem _ this.1, List.mem_cons_of_mem _ this.2⟩
    · match i with
      | 0 => simp [q_ent] at h; subst h; simp [lv_args]
      | 1 => simp [q_ent] at h
      | i + 2 =>
        have := ih (b + 2) i v (by simpa [q_ent] using h)
        rw [show b + 2 + i = b + (i + 2) by omega] at this
        exact ⟨List.mem_cons_of_mem _ this.1, List.mem_cons_of_mem _ this.2⟩
    · cases i with
      | zero => simp [q_ent] at h; subst h; simp [lv_args]
      | succ i =>
        have := ih (b + 1) i v (by simpa [q_ent] using h)
        rw [show b + 1 + i = b + (i + 1) by omega] at this
        exact ⟨List.mem_cons_of_mem _ this.1, List.mem_cons_of_mem _ this.2⟩
theorem q_oks_mem {av : List q_V} (h : q_oks av) {v : q_V} (hv : v ∈ av) : q_ok v := by
  induction av with
  | nil => cases hv
  | cons a r ih =>
    rcases List.mem_cons.mp hv with rfl | hv
    · exact h.1
    · exact ih h.2 hv
theorem q_pad {l : List (Option q_V)} {k i : Nat} {v : q_V} (h : (l ++ List.replicate k none)[i]? = some (some v)) : l[i]? = some (some v) := by
  by_cases hi : i < l.length
  · rwa [List.getElem?_append_left hi] at h
  · rw [List.getElem?_append_right (by omega), List.getElem?_replicate] at h
    split at h <;> simp at h
set_option maxHeartbeats 1000000 in
/-- a contract out of the walk of a method's body -/
theorem q_ct {M : q_M} {sh : q_H} {av : List q_V} {σ : q_S} {Q : Option q_V → q_S → Prop} (k : Nat) (hpl : plainName (q_nm M).cls = true) (hcl : (q_nm M).cls = q_own M) (hk : (q_ent av).length + k = q_nL M)
    (h : q_WP M sh 0 (q_ent av ++ List.replicate k none) [] σ Q) : q_Ct M sh av σ Q := by
  intro l D cs ad hok hrg hin
  refine Met.ofW (cc := q_cc M) (maxL := q_nL M) (ret := q_rt M) hpl rfl ?_
  intro p e s m args below meth c s₁ B hml hv
  obtain ⟨rfl, hP, hK, hN, hSt⟩ := hv
  have hx := B.exec
  have hb := B.bytes
  have hr := B.returns
  have hts := atoms_spec (ws := q_ws M) B.pre
  have hown : s.vm.findClass (q_own M) = some m.cls := by rw [← hcl]; exact findClass_of_methodNamed B.named
  have hlocks := B.notSynchronized
  have hlen : (lg_sl (av.map (q_cv ad))).length ≤ q_nL M := by rw [q_ent_len]; omega
  have hl := lv_entry (av.map (q_cv ad)) (n := q_nL M) hlen
  rw [lg_entry_eq]
  generalize (lg_sl (av.map (q_cv ad)) ++ List.replicate (q_nL M - (lg_sl (av.map (q_cv ad))).length) Slot.unset).toArray = la at hl ⊢
  have hlo : q_lo ad (q_nL M) (q_ent av ++ List.replicate k none) la := by
    refine ⟨hl.1, hl.2.1, fun i v hi => ?_⟩
    have h1 := q_ent_at ad av 0 i v (q_pad hi)
    rw [Nat.zero_add] at h1
    exact ⟨q_oks_mem hok h1.2, hl.2.2 _ h1.1⟩
  refine h p l e s m _ below meth c D cs ad s.heap [] la _ ⟨⟨hx, hb, hml, hown, hts, hK, hN, hSt, hin⟩, ⟨hrg, hP, va_S.rf⟩, ?_⟩ hlo trivial
  intro r σ' H' locs' hq hokr hrg' hP' hS' pc' la' hcase
  rcases hcase with ⟨hd, x, rfl, ty, hty, hn⟩ | ⟨hd, ⟨x, rfl⟩, hty⟩ | ⟨hd, ⟨x, rfl⟩, n, hty⟩ | ⟨hd, rfl, hty⟩
  · exact W.zret hx hb (hr.trans hty) hn (fun t ht hW => ⟨⟨_, σ', hq, hokr, hrg', rfl, by rw [ht]; exact hP'⟩, hS'.F ht⟩) hS'.2.2 hd
  · exact W.lret hx hb (hr.trans hty) (fun t ht hW => ⟨⟨_, σ', hq, hokr, hrg', rfl, by rw [ht]; exact hP'⟩, hS'.F ht⟩) hS'.2.2 hd
  · exact W.aret hx hb (hr.trans hty) (Or.inl ⟨n, rfl⟩) (Or.inr ⟨ad x, rfl⟩) (fun t ht hW => ⟨⟨_, σ', hq, hokr, hrg', rfl, by rw [ht]; exact hP'⟩, hS'.F ht⟩) hS'.2.2 hd
  · exact W.vret hx hb (hr.trans hty) (fun t ht hW => ⟨⟨_, σ', hq, hokr, hrg', rfl, by rw [ht]; exact hP'⟩, hS'.F ht⟩) hS'.2.2 hd
theorem q_Ct.imp {M : q_M} {sh : q_H} {av : List q_V} {σ : q_S} {Q Q' : Option q_V → q_S → Prop} (h : q_Ct M sh av σ Q) (hq : ∀ r σ', Q r σ' → Q' r σ') : q_Ct M sh av σ Q' := by
  intro l D cs ad h1 h2 h3 p e ha hc hk s m args below hf happ hP hK
  obtain ⟨t, o, g1, g2, g3, ⟨⟨r, σ', g4, g5⟩, g6⟩, g7⟩ := h l D cs ad h1 h2 h3 p e ha hc hk s m args below hf happ hP hK
  exact ⟨t, o, g1, g2, g3, ⟨⟨r, σ', hq r σ' g4, g5⟩, g6⟩, g7⟩
/-- what a call needs to know of a method -/
def q_MB (M : q_M) (n : Nat) : Prop := Cond.code (q_nm M) (q_cc M) (q_nL M) (q_rt M) ∈ q_words ∧ Cond.initialized (q_nm M).cls ∈ q_words ∧ ((q_nm M).cls ≠ "java/lang/invoke/MethodHandle" ∧ (q_nm M).cls ≠ "java/lang/invoke/VarHandle" ∧ (parseMethodDescriptor (q_nm M).desc).map (fun d => d.parameters.length) = some n) ∧ q_nL M ≤ 45
def q_MV (M : q_M) (n : Nat) : Prop := q_MB M n ∧ Cond.instanceMethod (q_nm M) ∈ q_words ∧ Cond.selects (q_nm M).cls (q_nm M) (q_nm M) ∈ q_words
def q_MS (M : q_M) (n : Nat) : Prop := q_MB M n ∧ Cond.static (q_nm M) ∈ q_words
def q_LK (own : String) (idx : Nat) (y : MethodName) : Prop := Cond.methodLink own idx y ∈ q_words ∨ ∃ host, Cond.methodLinkNest own idx y host ∈ q_nw
theorem q_good {M M' : q_M} {n : Nat} (h : q_MB M' n) : GoodIn (q_ws M) (q_ws M') := by
  intro w hw
  rcases List.mem_cons.mp hw with rfl | hw
  · exact ⟨List.mem_cons_of_mem _ h.1, good_of_word (List.mem_filter.mp h.1).2⟩
  · exact ⟨List.mem_cons_of_mem _ hw, good_of_word (List.mem_filter.mp hw).2⟩
def q_sum : List q_V → Nat
  | [] => 0
  | .inr (.inl _) :: r => 2 + q_sum r
  | .inl _ :: r => 1 + q_sum r
  | .inr (.inr _) :: r => 1 + q_sum r
theorem q_sum_eq (ad : Int → Nat) : ∀ st : List q_V, ((st.map (q_cv ad)).map fun v => v.category).sum = q_sum st := by
  intro st
  induction st with
  | nil => rfl
  | cons v r ih => rcases v with x | x | x <;> simpa [q_sum, q_cv, Value.category] using ih
theorem q_room_ok {M M' : q_M} {n : Nat} (hb : q_MB M' n) (hd : q_dp M' + 1 ≤ q_dp M) : (q_rm M').frames + 1 ≤ (q_rm M).frames ∧ 8 + (q_nL M' + 11) + (q_rm M').locals ≤ (q_rm M).locals := by
  have := hb.2.2.2
  refine ⟨hd, ?_⟩
  show 8 + (q_nL M' + 11) + 64 * q_dp M' ≤ 64 * q_dp M
  omega
theorem q_blind {D : va_G} {cs : Nat → ClassId} {ad : Int → Nat} {sh : q_H} {σ : q_S} {vs : List Value} : FrameBlind (va_Pc vs (fun U => va_P D vwCl (q_wld ad cs sh σ) U.heap ∧ va_K D vwCl (q_tys cs) U ∧ q_N U ∧ q_St ad (q_A ad sh.1) U U.heap)) := by
  intro a U g mk ⟨q0, qP, qK, qN, qS⟩
  refine ⟨q0, qP, va_K.moved (u := U) (U := U.calling g mk a) (Vm.Alike.refl U.vm) qK, ?_, q_St.go (s := U) (U := U.calling g mk a) (Vm.Alike.refl U.vm) (fun _ _ _ _ h => vk_R.same rfl h) (fun _ _ _ => rfl) (fun _ h => h) qS⟩
  intro w hw
  have h0 := qN w hw
  have hn := (List.mem_filter.mp hw).2
  cases w <;> first | (cases hn; done) | exact va_Nw.same (u := U) (U := U.calling g mk a) rfl rfl h0
section QC
variable {M M' : q_M} {sh : q_H} {pc n idx na : Nat} {ls : List (Option q_V)} {st av : List q_V} {σ : q_S} {Q Q' : Option q_V → q_S → Prop}
variable {p : Program} {l : Launch} {e : Env} {s : State} {m : MethodId} {args : Array Value} {below : List Frame} {meth : Method} {c : Code} {D : va_G} {cs : Nat → ClassId} {ad : Int → Nat} {H : Heap} {locs : List Loc} {la : Array Slot} {Qf : State → Prop} {g : JFrame}
theorem q_pre (E : q_En M sh σ Q p l e s m args below meth c D cs ad H locs Qf) : ∀ U : State, U.heap = H → s.WarmedH U.vm → va_P D vwCl (q_wld ad cs sh σ) U.heap ∧ va_K D vwCl (q_tys cs) U ∧ q_N U ∧ q_St ad (q_A ad sh.1) U U.heap := by
  intro U hU hW
  refine ⟨by rw [hU]; exact E.2.1.2.1, va_K.moved hW.alike E.1.2.2.2.2.2.1, q_N.go hW E.1.2.2.2.2.2.2.1, ?_⟩
  rw [hU]
  exact q_St.go hW.alike (fun _ _ _ _ h => vk_R.warm hW h) (fun q h1 h2 => E.2.1.2.2.2.1 q h1 h2) (fun _ h => h) E.1.2.2.2.2.2.2.2.1
/-- behind a call -/
theorem q_after (E : q_En M sh σ Q p l e s m args below meth c D cs ad H locs Qf) (L : q_lo ad (q_nL M) ls la) (O : q_oks st) {stk : List Value}
    (hr : va_Run p l e (q_rm M) s m args below meth c H locs 0 0 0 0 (F0 m pc la stk) (st.map (q_cv ad)) (fun st o t => (∃ (r : Option q_V) (σ' : q_S), Q' r σ' ∧ q_oks r.toList ∧ q_rng sh σ' ∧ o = .returned (r.map (q_cv ad)) ∧ va_P D vwCl (q_wld ad cs sh σ') t.heap) ∧ va_F (q_A ad sh.1) st t) (q_A ad sh.1))
    (kk : ∀ r σ', Q' r σ' → q_WP M sh (pc + 3) ls (r.toList ++ st) σ' Q) : W p l e (q_rm M) s m args below meth c H locs 0 0 Qf (F0 m pc la stk) := by
  intro T hT X
  obtain ⟨v, st₀, t, T', L', h0, X', hL, e1, e2, ⟨⟨r, σ', hq, hok, hrg, hv, hP'⟩, hz, hk⟩, go⟩ := hr T hT X
  cases hv
  rw [h0] at hz hk
  have hO : q_oks (r.toList ++ st) := by
    cases r with
    | none => exact O
    | some v => exact ⟨hok.1, O⟩
  have hS1 : va_S (q_A ad sh.1) s.heap T'.heap (locs ++ L') := by
    refine ⟨Nat.le_trans E.2.1.2.2.1 (by rw [e1]; exact hz), fun q h1 h2 => ?_, fun q hq => ?_⟩
    · rw [e1, hk q (Nat.lt_of_lt_of_le h1 E.2.1.2.2.1) h2]
      exact E.2.1.2.2.2.1 q h1 h2
    · rcases List.mem_append.mp hq with h | h
      · exact E.2.1.2.2.2.2 q h
      · exact hL q h
  have k' := kk r σ' hq p l e s m args below meth c D cs ad T'.heap (locs ++ L') la Qf ⟨E.1, ⟨hrg, by rw [e1]; exact hP', hS1⟩, E.2.2⟩ L hO
  have hstk : ((r.map (q_cv ad)).toList ++ st.map (q_cv ad)) = (r.toList ++ st).map (q_cv ad) := by cases r <;> simp
  obtain ⟨t2, a1, b1⟩ := k' T' rfl X'
  refine ⟨t2, go t2 ?_, b1⟩
  have e3 : ({ F0 m pc la stk with pc := (F0 m pc la stk).pc + 3, stack := (r.map (q_cv ad)).toList ++ st.map (q_cv ad) } : JFrame) = F0 m (pc + 3) la ((r.toList ++ st).map (q_cv ad)) := by rw [hstk]
  rw [e3]
  exact a1
set_option maxHeartbeats 1000000 in
/-- an instance method of an object of the world, own or of a nest mate -/
theorem q_callV {x : Int} {ci N : Nat} {fs : List (Nat ⊕ Int)} {T : u_T} (hd : decode (q_cc M) pc = .ok (.invokevirtual idx, 3)) (hn : pc + 3 = n) (hm : q_MV M' na) (hlk : q_LK (q_own M) idx (q_nm M')) (hdp : q_dp M' + 1 ≤ q_dp M) (hlen : av.length = na) (hw : Nat.ble (q_sum st) 8 = true) (hC : q_is sh x (.inl (ci, fs))) (hci : vwCl[ci]? = some ((q_nm M').cls, T, N))
    (hct : q_Ct M' sh (.inr (.inr x) :: av) σ Q') {stk : List q_V} (hstk : stk = av.reverse ++ .inr (.inr x) :: st) (kk : ∀ r σ', Q' r σ' → q_WP M sh n ls (r.toList ++ st) σ' Q) : q_WP M sh pc ls stk σ Q := by
  subst hn
  subst hstk
  intro p l e s m args below meth c D cs ad H locs la Qf E L O
  have hsp : ∀ (a : List q_V) (b : List q_V), q_oks (a ++ b) → q_oks a ∧ q_oks b := by
    intro a b h
    induction a with
    | nil => exact ⟨trivial, h⟩
    | cons v r ih => exact ⟨⟨h.1, (ih h.2).1⟩, (ih h.2).2⟩
  have hO := hsp _ _ O
  have hav : q_oks (.inr (.inr x) :: av) := by
    refine ⟨trivial, ?_⟩
    have h1 : ∀ v ∈ av, q_ok v := fun v hv => q_oks_mem hO.1 (List.mem_reverse.mpr hv)
    clear hO O hlen hct
    induction av with
    | nil => trivial
    | cons v r ih => exact ⟨h1 v List.mem_cons_self, ih (fun u hu => h1 u (List.mem_cons_of_mem _ hu))⟩
  obtain ⟨n0, hn0, hn1, he⟩ := q_is_at hC (ad := ad) (cs := cs) (σ := σ)
  have hMet := hct l D cs ad hav E.2.1.1 E.1.2.2.2.2.2.2.2.2
  have hS : CallFix p m c (q_cc M) (q_nL M) s args (q_ws M) (q_own M) := ⟨E.1.1, E.1.2.1, E.1.2.2.1, E.1.2.2.2.1, E.1.2.2.2.2.1⟩
  have hrecv := va_recv E.1.2.2.2.2.2.1 E.2.1.2.1 hci he
  have hp : PreV s H (q_nm M').cls (ad x) (va_Pc ((Sum.inr (Sum.inr x) :: av : List q_V).map (q_cv ad)) (fun U => va_P D vwCl (q_wld ad cs sh σ) U.heap ∧ va_K D vwCl (q_tys cs) U ∧ q_N U ∧ q_St ad (q_A ad sh.1) U U.heap)) (av.map (q_cv ad)) :=
    ⟨q_blind, hrecv, fun U hU hW => ⟨rfl, q_pre E U hU hW⟩⟩
  have hini := q_hw E.1.2.2.2.2.1 hm.1.2.1
  have hstack : ((av.reverse ++ .inr (.inr x) :: st).map (q_cv ad)) = (av.map (q_cv ad)).reverse ++ .ref (ad x) :: st.map (q_cv ad) := by
    rw [List.map_append, List.map_reverse]
    rfl
  have hWW : 2 * (F0 m pc la ((av.reverse ++ .inr (.inr x) :: st).map (q_cv ad))).monitorRoom + ((st.map (q_cv ad)).map fun v => v.category).sum ≤ 8 := lv_room (by rw [q_sum_eq]; exact Nat.le_of_ble_eq_true hw)
  rcases hlk with hlk | ⟨host, hlk⟩
  · exact q_after E L hO.2.2 (va_runV hS hMet ⟨callB_of na E.1.2.2.2.2.1 (q_good hm.1) rfl rfl rfl hini (q_hw E.1.2.2.2.2.1 hlk) hm.1.2.2.1 (q_room_ok hm.1 hdp), q_hw E.1.2.2.2.2.1 hm.2.1, q_hw E.1.2.2.2.2.1 hm.2.2⟩ hp rfl (by simpa using hlen) L.1 hstack hWW hd ⟨Nat.le_refl _, Nat.le_refl _⟩) kk
  · exact q_after E L hO.2.2 (va_runVN hS hMet ⟨va_cnB na E.1.2.2.2.2.1 (q_good hm.1) rfl rfl rfl (E.1.2.2.2.2.2.2.1 _ hlk) hini hm.1.2.2.1 (q_room_ok hm.1 hdp), q_hw E.1.2.2.2.2.1 hm.2.1, q_hw E.1.2.2.2.2.1 hm.2.2⟩ hp rfl (by simpa using hlen) L.1 hstack hWW hd ⟨Nat.le_refl _, Nat.le_refl _⟩) kk
set_option maxHeartbeats 1000000 in
/-- a static method -/
theorem q_callS (hd : decode (q_cc M) pc = .ok (.invokestatic idx, 3)) (hn : pc + 3 = n) (hm : q_MS M' na) (hlk : q_LK (q_own M) idx (q_nm M')) (hdp : q_dp M' + 1 ≤ q_dp M) (hlen : av.length = na) (hw : Nat.ble (q_sum st) 8 = true)
    (hct : q_Ct M' sh av σ Q') {stk : List q_V} (hstk : stk = av.reverse ++ st) (kk : ∀ r σ', Q' r σ' → q_WP M sh n ls (r.toList ++ st) σ' Q) : q_WP M sh pc ls stk σ Q := by
  subst hn
  subst hstk
  intro p l e s m args below meth c D cs ad H locs la Qf E L O
  have hsp : ∀ (a : List q_V) (b : List q_V), q_oks (a ++ b) → q_oks a ∧ q_oks b := by
    intro a b h
    induction a with
    | nil => exact ⟨trivial, h⟩
    | cons v r ih => exact ⟨⟨h.1, (ih h.2).1⟩, (ih h.2).2⟩
  have hO := hsp _ _ O
  have hav : q_oks av := by
    have h1 : ∀ v ∈ av, q_ok v := fun v hv => q_oks_mem hO.1 (List.mem_reverse.mpr hv)
    clear hO O hlen hct
    induction av with
    | nil => trivial
    | cons v r ih => exact ⟨h1 v List.mem_cons_self, ih (fun u hu => h1 u (List.mem_cons_of_mem _ hu))⟩
  have hMet := hct l D cs ad hav E.2.1.1 E.1.2.2.2.2.2.2.2.2
  have hS : CallFix p m c (q_cc M) (q_nL M) s args (q_ws M) (q_own M) := ⟨E.1.1, E.1.2.1, E.1.2.2.1, E.1.2.2.2.1, E.1.2.2.2.2.1⟩
  have hp : PreS s H (va_Pc (av.map (q_cv ad)) (fun U => va_P D vwCl (q_wld ad cs sh σ) U.heap ∧ va_K D vwCl (q_tys cs) U ∧ q_N U ∧ q_St ad (q_A ad sh.1) U U.heap)) (av.map (q_cv ad)) :=
    ⟨q_blind, fun U hU hW => ⟨rfl, q_pre E U hU hW⟩⟩
  have hini := q_hw E.1.2.2.2.2.1 hm.1.2.1
  have hstack : ((av.reverse ++ st).map (q_cv ad)) = (av.map (q_cv ad)).reverse ++ st.map (q_cv ad) := by
    rw [List.map_append, List.map_reverse]
  have hWW : 2 * (F0 m pc la ((av.reverse ++ st).map (q_cv ad))).monitorRoom + ((st.map (q_cv ad)).map fun v => v.category).sum ≤ 8 := lv_room (by rw [q_sum_eq]; exact Nat.le_of_ble_eq_true hw)
  rcases hlk with hlk | ⟨host, hlk⟩
  · exact q_after E L hO.2 (va_runS hS hMet ⟨callB_of na E.1.2.2.2.2.1 (q_good hm.1) rfl rfl rfl hini (q_hw E.1.2.2.2.2.1 hlk) hm.1.2.2.1 (q_room_ok hm.1 hdp), q_hw E.1.2.2.2.2.1 hm.2⟩ hp rfl (by simpa using hlen) L.1 hstack hWW hd ⟨Nat.le_refl _, Nat.le_refl _⟩) kk
  · exact q_after E L hO.2 (va_runSN hS hMet ⟨va_cnB na E.1.2.2.2.2.1 (q_good hm.1) rfl rfl rfl (E.1.2.2.2.2.2.2.1 _ hlk) hini hm.1.2.2.1 (q_room_ok hm.1 hdp), q_hw E.1.2.2.2.2.1 hm.2, trivial⟩ hp rfl (by simpa using hlen) L.1 hstack hWW hd ⟨Nat.le_refl _, Nat.le_refl _⟩) kk
end QC
