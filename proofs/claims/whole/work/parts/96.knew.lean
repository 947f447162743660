/-! a new object, made by its constructor -/
theorem k_O.go {u U : State} (hvm : u.vm.Alike U.vm) (h : k_O u) : k_O U := ⟨va_AO.moved hvm h.1, va_AO.moved hvm h.2.1, va_AO.moved hvm h.2.2⟩
theorem k_blind {D : va_G} {cs : Nat → ClassId} {ws : va_W} {vs : List Value} {h0 sz : Nat} : FrameBlind (va_Pc vs (fun U => U.heap.size = sz ∧ h0 < sz ∧ k_Pr D cs ws U)) := by
  intro a U g mk ⟨q0, q1, q2, qP, qK, qN, qO⟩
  refine ⟨q0, q1, q2, qP, va_K.moved (u := U) (U := U.calling g mk a) (Vm.Alike.refl U.vm) qK, ?_, k_O.go (u := U) (U := U.calling g mk a) (Vm.Alike.refl U.vm) qO⟩
  intro w hw
  have h0 := qN w hw
  have hn := (List.mem_filter.mp hw).2
  cases w <;> first | (cases hn; done) | exact va_Nw.same (u := U) (U := U.calling g mk a) rfl rfl h0
theorem k_good {Ts : List Cond} {M' : q_M} {na : Nat} (hTs : ∀ w ∈ q_words, w ∈ Ts) (hm : q_MB M' na) : GoodIn Ts (q_ws M') := by
  intro w hw
  rcases List.mem_cons.mp hw with rfl | hw
  · exact ⟨hTs _ hm.1, good_of_word (List.mem_filter.mp hm.1).2⟩
  · exact ⟨hTs _ hw, good_of_word (List.mem_filter.mp hw).2⟩
section KN
variable {p : Program} {l : Launch} {e : Env} {R : Room} {s : State} {m : MethodId} {args : Array Value} {below : List Frame} {meth : Method} {c : Code} {D : va_G} {cs : Nat → ClassId} {H : Heap} {locs : List Loc} {cells slots pc : Nat} {Q : State → Prop} {la : Array Slot} {st : List Value} {A : Nat → Prop} {ws : va_W}
/-- a class whose objects are made: its words -/
def k_CL (own : String) (i1 ci : Nat) (fs : List Value) (N : Nat) (C : String) : Prop := ∃ (T : u_T) (ty0 : Nat → FieldType), vwCl[ci]? = some (C, T, N) ∧ (∀ w ∈ u_ws C T N, w ∈ q_words) ∧ (∀ k, k < N → parseFieldDescriptor (T k).2.2.1 = some (ty0 k)) ∧ (∀ j, j < N → defaultValue (ty0 j) = vp_V fs j) ∧ Cond.classLink own i1 C ∈ q_words ∧ Cond.instantiable C N ∈ q_words ∧ Cond.initialized C ∈ q_words
set_option maxHeartbeats 2000000 in
theorem k_nci {cc : ByteArray} {nL : Nat} {own C : String} {Ts : List Cond} {N ci i1 i2 : Nat} {fs : List Value} {M' : q_M} {sh : q_H} {σ : q_S} {R' : Room} (hx : p.tables.exec = Jvm.exec) (hb : c.code = cc) (hml : c.maxLocals = nL) (hown : s.vm.findClass own = some m.cls) (hts : ∀ w ∈ Ts, w.before args s = true) (hTs : ∀ w ∈ q_words, w ∈ Ts) (hK : va_K D vwCl (q_tys cs) s) (hN : q_N s) (hO : k_O s) (S : k_S A s.heap D H locs ws) (hA : ∀ q : Nat, s.heap.size ≤ q → A q) (hla : la.size = nL)
    (hc : k_CL own i1 ci fs N C) (hCt : k_Ct M' ci fs sh σ R') (hmb : q_MB M' 0) (hnm : (q_nm M').name = "<init>") (hin : Cond.instanceMethod (q_nm M') ∈ q_words) (hrt : q_rt M' = none) (hlk : q_LK own i2 (q_nm M')) (hr1 : R'.frames + 1 ≤ R.frames ∧ 8 + (q_nL M' + 11) + R'.locals ≤ R.locals) (hcells : cells + 1 + R'.cells ≤ R.cells) (hslots : slots + N + R'.slots ≤ R.slots)
    (d1 : decode cc pc = .ok (.new i1, 3)) (d2 : decode cc (pc + 3) = .ok (.dup, 1)) (d3 : decode cc (pc + 4) = .ok (.invokespecial i2, 3)) (hw : 1 + (st.map fun v => v.category).sum ≤ 8) (hpos : 0 < sh.1)
    (kk : ∀ (ad : Int → Nat) (H1 : Heap) (locs1 : List Loc), k_S A s.heap D H1 locs1 (ws ++ q_wld ad cs sh σ) → W p l e R s m args below meth c H1 locs1 (cells + 1 + R'.cells) (slots + N + R'.slots) Q (F0 m (pc + 7) la (.ref (ad 0) :: st))) : W p l e R s m args below meth c H locs cells slots Q (F0 m pc la st) := by
  obtain ⟨T, ty0, c1, c2, c3, c4, c5, c6, c7⟩ := hc
  have hwd : ∀ w ∈ q_words, w.before args s = true := fun w hw => hts w (hTs w hw)
  refine va_new (ci := ci) (fs := fs) (C := C) (T := T) (N := N) hx hb hts (fun w hw => hTs w (c2 w hw)) ty0 c3 hown (hwd _ c5) (hwd _ c6) (hwd _ c7) hK S.1 S.2.1 S.2.2 hA c1 c4 (by omega) (by omega) d1 (fun q H1 hP hD hS => ?_)
  refine lv_dup hx hb d2 rfl ?_
  have hq : (ws ++ [(q, (.inr (ci, fs) : va_E))])[ws.length]? = some (q, .inr (ci, fs)) := by simp
  have hlt : q < H1.size := (hP ws.length _ hq).lt
  have hPq : va_P D vwCl [(q, .inr (ci, fs))] H1 := hP.sub [ws.length] (by simp)
  have hAq : A q := hD.2 _ _ hq
  have hold : ∀ (k : Nat) (x : Nat × va_E), ws[k]? = some x → x.1 < H1.size ∧ x.1 ≠ q := by
    intro k x hk
    have hkl : k < ws.length := (List.getElem?_eq_some_iff.mp hk).1
    have hk2 : (ws ++ [(q, (.inr (ci, fs) : va_E))])[k]? = some x := by rw [List.getElem?_append_left hkl]; exact hk
    refine ⟨(hP k x hk2).lt, fun z => ?_⟩
    have := hD.1 k ws.length x _ hk2 hq z
    omega
  have hPre : PreS s H1 (va_Pc [.ref q] (fun U => U.heap.size = H1.size ∧ q < H1.size ∧ k_Pr D cs [(q, .inr (ci, fs))] U)) (.ref q :: []) := ⟨k_blind, fun U hU hW => ⟨rfl, by rw [hU], hlt, by rw [hU]; exact hPq, va_K.moved hW.alike hK, q_N.go hW hN, k_O.go hW.alike hO⟩⟩
  have hMet := hCt l D cs q H1.size
  have hWW : 2 * (F0 m (pc + 3 + 1) la (.ref q :: .ref q :: st)).monitorRoom + ((.ref q :: st : List Value).map fun v => v.category).sum ≤ 8 := lv_room hw
  have hcode : Cond.code (q_nm M') (q_cc M') (q_nL M') none ∈ q_words := by
    have := hmb.1
    rw [hrt] at this
    exact this
  have hwsc : q_ws M' = Cond.code (q_nm M') (q_cc M') (q_nL M') none :: q_words := by
    show Cond.code (q_nm M') (q_cc M') (q_nL M') (q_rt M') :: q_words = _
    rw [hrt]
  have hrun : va_Run p l e R s m args below meth c H1 locs (cells + 1) (slots + N) R'.cells R'.slots (F0 m (pc + 3 + 1) la (.ref q :: .ref q :: st)) (.ref q :: st) (k_Q D cs q H1.size sh σ ([.ref q] : List Value).toArray) (k_A q H1.size) := by
    rcases hlk with hlk | ⟨host, hlk⟩
    · exact va_runI (As := []) (⟨hx, hb, hml, hown, hts⟩ : CallFix p m c cc nL s args Ts own) hMet ⟨callB_of 0 hts (k_good hTs hmb) hwsc rfl rfl (hwd _ hmb.2.1) (hwd _ hlk) hmb.2.2.1 hr1, hnm, hwd _ hin⟩ hPre rfl rfl hla rfl hWW d3 ⟨hcells, hslots⟩
    · exact va_runIN (As := []) (⟨hx, hb, hml, hown, hts⟩ : CallFix p m c cc nL s args Ts own) hMet ⟨va_cnB 0 hts (k_good hTs hmb) hwsc rfl rfl (hN _ hlk) (hwd _ hmb.2.1) hmb.2.2.1 hr1, hnm, hwd _ hin⟩ hPre rfl rfl hla rfl hWW d3 ⟨hcells, hslots⟩
  intro T0 hT X0
  obtain ⟨v, st₀, t, T', L', h0, X', hL, e1, e2, ⟨⟨ho, ad, had, hP', hD'⟩, hz, hk⟩, go⟩ := hrun T0 hT X0
  cases ho
  rw [h0] at hz hk
  have hkA : ∀ r : Nat, k_A q H1.size r → A r := fun r hr => by
    rcases hr with rfl | hr
    · exact hAq
    · exact hA r (Nat.le_trans hS.1 hr)
  have hS1 : va_S A s.heap T'.heap (locs ++ L') := by
    refine ⟨Nat.le_trans hS.1 (by rw [e1]; exact hz), fun r h1 h2 => ?_, fun r hr => ?_⟩
    · rw [e1, hk r (Nat.lt_of_lt_of_le h1 hS.1) (fun z => h2 (hkA r z))]
      exact hS.2.1 r h1 h2
    · rcases List.mem_append.mp hr with h | h
      · exact hS.2.2 r h
      · exact hkA _ (hL r h)
  have hPw : va_P D vwCl ws H1 := fun k x hk => hP k x (by rw [List.getElem?_append_left (List.getElem?_eq_some_iff.mp hk).1]; exact hk)
  have hDw : va_D A ws := ⟨S.2.1.1, S.2.1.2⟩
  have hPw' : va_P D vwCl ws T'.heap := hPw.kept (fun k x hx => by
    obtain ⟨a1, a2⟩ := hold k x hx
    rw [e1]
    exact hk _ a1 (fun z => by
      rcases z with z | z
      · exact a2 z
      · omega))
  obtain ⟨t2, a1, b1⟩ := kk ad T'.heap (locs ++ L') ⟨hPw'.app (by rw [e1]; exact hP'), hDw.app (hD'.weaken (fun _ x _ hx => hkA _ hx)) (fun i j x y hi hj exy => by
    obtain ⟨a1, a2⟩ := hold i x hi
    have a3 := hD'.2 j y hj
    rcases a3 with a3 | a3
    · exact a2 (exy.trans a3)
    · omega), hS1⟩ T' rfl X'
  rw [had] at a1
  exact ⟨t2, go t2 a1, b1⟩
end KN
