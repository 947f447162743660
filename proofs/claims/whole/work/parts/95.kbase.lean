/-! constructors: a world that grows -/
def k_A (h0 sz : Nat) : Nat → Prop := fun q => q = h0 ∨ sz ≤ q
def k_O (U : State) : Prop := va_AO RX0 U ∧ va_AO RX3 U ∧ va_AO RX5 U
def k_Pr (D : va_G) (cs : Nat → ClassId) (ws : va_W) (U : State) : Prop := va_P D vwCl ws U.heap ∧ va_K D vwCl (q_tys cs) U ∧ q_N U ∧ k_O U
def k_S (A : Nat → Prop) (H0 : Heap) (D : va_G) (H : Heap) (locs : List Loc) (ws : va_W) : Prop := va_P D vwCl ws H ∧ va_D A ws ∧ va_S A H0 H locs
def k_Q (D : va_G) (cs : Nat → ClassId) (h0 sz : Nat) (sh : q_H) (σ : q_S) : Array Value → State → Outcome → State → Prop := fun _ st o t => (o = .returned none ∧ ∃ ad : Int → Nat, ad 0 = h0 ∧ va_P D vwCl (q_wld ad cs sh σ) t.heap ∧ va_D (k_A h0 sz) (q_wld ad cs sh σ)) ∧ va_F (k_A h0 sz) st t
/-- a constructor's contract: out of its object and nothing else it makes the world sh with σ, its object the first cell -/
def k_Ct (M : q_M) (ci : Nat) (fs : List Value) (sh : q_H) (σ : q_S) (R : Room) : Prop :=
  ∀ (l : Launch) (D : va_G) (cs : Nat → ClassId) (h0 sz : Nat), Met l (q_nm M) (q_ws M) R (va_Pc [.ref h0] (fun U => U.heap.size = sz ∧ h0 < sz ∧ k_Pr D cs [(h0, .inr (ci, fs))] U)) (k_Q D cs h0 sz sh σ) R.cells R.slots (k_A h0 sz)
def k_E (M : q_M) (p : Program) (s : State) (m : MethodId) (args : Array Value) (meth : Method) (c : Code) (D : va_G) (cs : Nat → ClassId) : Prop := p.tables.exec = Jvm.exec ∧ c.code = q_cc M ∧ c.maxLocals = q_nL M ∧ s.vm.findClass (q_own M) = some m.cls ∧ (∀ w ∈ q_ws M, w.before args s = true) ∧ va_K D vwCl (q_tys cs) s ∧ q_N s ∧ k_O s ∧ meth.sig.returnType = none ∧ meth.name = "<init>" ∧ meth.locks = false
set_option maxHeartbeats 1000000 in
theorem k_ct {M : q_M} {ci : Nat} {fs : List Value} {sh : q_H} {σ : q_S} {R : Room} (hpl : plainName (q_nm M).cls = true) (hcl : (q_nm M).cls = q_own M) (hnm : (q_nm M).name = "<init>") (hrt : q_rt M = none) (hk : 1 ≤ q_nL M)
    (h : ∀ (p : Program) (l : Launch) (e : Env) (s : State) (m : MethodId) (args : Array Value) (below : List Frame) (meth : Method) (c : Code) (D : va_G) (cs : Nat → ClassId) (h0 : Nat) (A : Nat → Prop) (la : Array Slot), k_E M p s m args meth c D cs → lv_has la (q_nL M) [(0, .ref h0)] → A = k_A h0 s.heap.size → (∀ q : Nat, s.heap.size ≤ q → A q) → k_S A s.heap D s.heap [] [(h0, .inr (ci, fs))] →
      W p l e R s m args below meth c s.heap [] 0 0 (MQ below (k_Q D cs h0 s.heap.size sh σ) args s R.cells R.slots (k_A h0 s.heap.size)) (F0 m 0 la [])) : k_Ct M ci fs sh σ R := by
  intro l D cs h0 sz
  refine Met.ofW (cc := q_cc M) (maxL := q_nL M) (ret := q_rt M) hpl rfl ?_
  intro p e s m args below meth c s₁ B hml hv
  obtain ⟨rfl, hsz, hlt, hP, hK, hN, hO⟩ := hv
  have hx := B.exec
  have hb := B.bytes
  have hr := B.returns
  have hts := atoms_spec (ws := q_ws M) B.pre
  have hown : s.vm.findClass (q_own M) = some m.cls := by rw [← hcl]; exact findClass_of_methodNamed B.named
  have hlocks := B.notSynchronized
  have hin : meth.name = "<init>" := ((name_of_methodNamed B.named B.method).1).trans hnm
  subst hsz
  have hA : ∀ q : Nat, s.heap.size ≤ q → k_A h0 s.heap.size q := fun q h => Or.inr h
  have hl := lv_entry ([.ref h0]) (n := q_nL M) hk
  rw [lg_entry_eq]
  generalize (lg_sl ([.ref h0]) ++ List.replicate (q_nL M - (lg_sl ([.ref h0])).length) Slot.unset).toArray = la at hl ⊢
  have hl : lv_has la (q_nL M) [(0, .ref h0)] := hl
  refine h p l e s m _ below meth c D cs h0 _ la ⟨hx, hb, hml, hown, hts, hK, hN, hO, hr.trans hrt, hin, hlocks⟩ hl rfl hA ⟨hP, ⟨fun i j p q hi hj _ => ?_, fun k q hk => ?_⟩, va_S.rf⟩
  · have hi1 : i < 1 := (List.getElem?_eq_some_iff.mp hi).1
    have hj1 : j < 1 := (List.getElem?_eq_some_iff.mp hj).1
    omega
  · have hk1 : k < 1 := (List.getElem?_eq_some_iff.mp hk).1
    have hk0 : k = 0 := by omega
    subst hk0
    cases hk
    exact Or.inl rfl
/-- a field of the own class: its class's number, its slot, is it final, its type -/
def k_FF (own : String) (idx ci k : Nat) (fin : Bool) (ty : FieldType) : Prop := ∃ (C : String) (T : u_T) (N : Nat) (ty0 : Nat → FieldType), vwCl[ci]? = some (C, T, N) ∧ k < N ∧ (∀ w ∈ u_ws C T N, w ∈ q_words) ∧ (∀ k, k < N → parseFieldDescriptor (T k).2.2.1 = some (ty0 k)) ∧ (∀ a, a < N → ∀ b, b < N → a ≠ b → (T a).2.1 ≠ (T b).2.1) ∧ (T k).2.2.2 = fin ∧ (T k).1 = own ∧ parseFieldDescriptor (T k).2.2.1 = some ty ∧ Cond.fieldLink own idx (T k).1 (T k).2.1 (T k).2.2.1 ∈ q_words
section KB
variable {M : q_M} {p : Program} {l : Launch} {e : Env} {R : Room} {s : State} {m : MethodId} {args : Array Value} {below : List Frame} {meth : Method} {c : Code} {D : va_G} {cs : Nat → ClassId} {H : Heap} {locs : List Loc} {cells slots pc : Nat} {Q : State → Prop} {la : Array Slot} {st : List Value} {A : Nat → Prop} {ws : va_W} {h0 : Nat}
theorem k_w (E : k_E M p s m args meth c D cs) {w : Cond} (h : w ∈ q_words) : w.before args s = true := E.2.2.2.2.1 w (List.mem_cons_of_mem _ h)
theorem k_put {ci k idx : Nat} {fin : Bool} {ty : FieldType} {fs : List Value} {v : Value} (E : k_E M p s m args meth c D cs) (hf : k_FF (q_own M) idx ci k fin ty) (hn : narrow ty v = v) (hfit : fits ty v = true) (hl : k < fs.length) (hdg : decode (q_cc M) pc = .ok (.putfield idx, 3)) (S : k_S A s.heap D H locs ((h0, .inr (ci, fs)) :: ws)) (kk : ∀ (H1 : Heap) (locs1 : List Loc), k_S A s.heap D H1 locs1 ((h0, .inr (ci, fs.set k v)) :: ws) → W p l e R s m args below meth c H1 locs1 cells slots Q (F0 m (pc + 3) la st)) : W p l e R s m args below meth c H locs cells slots Q (F0 m pc la (v :: .ref h0 :: st)) := by
  obtain ⟨C, T, N, ty0, h1, h2, h3, h4, h5, h6, h7, h8, h9⟩ := hf
  cases fin with
  | true => exact va_putF E.1 E.2.1 E.2.2.2.2.1 (fun w hw => List.mem_cons_of_mem _ (h3 w hw)) ty0 h4 h5 E.2.2.2.1 E.2.2.2.2.2.1 S.1 S.2.1 S.2.2 0 rfl h1 k h2 (k_w E h9) (fun _ h => h) h6 E.2.2.2.2.2.2.2.2.2.1 h7 h8 hn hfit hl hdg (fun H1 locs1 hP hD hS => kk H1 locs1 ⟨hP, hD, hS⟩)
  | false => exact va_put E.1 E.2.1 E.2.2.2.2.1 (fun w hw => List.mem_cons_of_mem _ (h3 w hw)) ty0 h4 h5 E.2.2.2.1 E.2.2.2.2.2.1 S.1 S.2.1 S.2.2 0 rfl h1 k h2 (k_w E h9) (fun _ h => h) h6 h8 hn hfit hl hdg (fun H1 locs1 hP hD hS => kk H1 locs1 ⟨hP, hD, hS⟩)
theorem k_get {ci k idx : Nat} {fin : Bool} {ty : FieldType} {fs : List Value} {v : Value} (E : k_E M p s m args meth c D cs) (hf : k_FF (q_own M) idx ci k fin ty) (hv : fs[k]? = some v) (hdg : decode (q_cc M) pc = .ok (.getfield idx, 3)) (S : k_S A s.heap D H locs ((h0, .inr (ci, fs)) :: ws)) (kk : W p l e R s m args below meth c H locs cells slots Q (F0 m (pc + 3) la (v :: st))) : W p l e R s m args below meth c H locs cells slots Q (F0 m pc la (.ref h0 :: st)) := by
  obtain ⟨C, T, N, ty0, h1, h2, h3, h4, h5, h6, h7, h8, h9⟩ := hf
  exact va_get E.1 E.2.1 E.2.2.2.2.1 (fun w hw => List.mem_cons_of_mem _ (h3 w hw)) E.2.2.2.1 E.2.2.2.2.2.1 S.1 0 rfl h1 k h2 (k_w E h9) (fun _ h => h) hv hdg kk
theorem k_same {s : State} {tys : List (ClassId × FieldType)} {ty : FieldType} {cA c0 : ClassId} {j : Nat} (hK : va_K D vwCl tys s) (hj : tys[j]? = some (c0, ty)) (hK' : va_K D vwCl (tys ++ [(cA, ty)]) s) (h : ∀ x y : ClassId, va_RA s x ty → va_RA s y ty → x = y) : cA = c0 := by
  have h1 := (hK.2 j _ hj).2
  have h2 := (hK'.2 tys.length (cA, ty) (by simp)).2
  exact h _ _ h2 h1
theorem k_raI {s : State} {x y : ClassId} (h1 : va_RA s x .int) (h2 : va_RA s y .int) : x = y := Option.some.inj (h1.symm.trans h2)
theorem k_raJ {s : State} {x y : ClassId} (h1 : va_RA s x .long) (h2 : va_RA s y .long) : x = y := Option.some.inj (h1.symm.trans h2)
theorem k_raB {s : State} {x y : ClassId} (h1 : va_RA s x .byte) (h2 : va_RA s y .byte) : x = y := Option.some.inj (h1.symm.trans h2)
theorem k_raC {s : State} {x y : ClassId} (h1 : va_RA s x .char) (h2 : va_RA s y .char) : x = y := Option.some.inj (h1.symm.trans h2)
theorem k_raO {s : State} {x y : ClassId} {C : String} (h1 : va_RA s x (.object C)) (h2 : va_RA s y (.object C)) : x = y := by
  obtain ⟨_, _, _, _, _, a⟩ := h1
  obtain ⟨_, _, _, _, _, b⟩ := h2
  exact Option.some.inj (a.symm.trans b)
def k_z (cs : Nat → ClassId) (t n : Nat) : va_E := .inl (cs t, n, if t = 1 then .inr (.inl (fun _ => Int64.ofInt 0)) else .inl (fun _ => Int32.ofInt 0))
theorem k_newI {n : Int32} {N' : Nat} (E : k_E M p s m args meth c D cs) (hw : Cond.arrayClass .int ∈ q_words) (hA : ∀ q : Nat, s.heap.size ≤ q → A q) (hn : ¬ n < 0) (hN : n.toNatClampNeg = N') (hN2 : N' ≤ 10000) (hcells : cells + 1 ≤ R.cells) (hslots : slots + N' ≤ R.slots) (hdg : decode (q_cc M) pc = .ok (.newarray .int, 2)) (S : k_S A s.heap D H locs ws) (kk : ∀ (q : Nat) (H1 : Heap), k_S A s.heap D H1 locs (ws ++ [(q, k_z cs 0 N')]) → W p l e R s m args below meth c H1 locs (cells + 1) (slots + N') Q (F0 m (pc + 2) la (.ref q :: st))) : W p l e R s m args below meth c H locs cells slots Q (F0 m pc la (.int n :: st)) := by
  refine va_newa (atype := .int) (ty := .int) (a0 := (N', .inl (fun _ => Int32.ofInt 0))) E.1 E.2.1 (k_w E hw) rfl E.2.2.2.2.2.1 S.1 S.2.1 S.2.2 hA (fun _ => rfl) hn hN (by show N' * 4 ≤ 536870912; omega) hcells hslots hdg (fun q cA H1 hK hP hD hS => ?_)
  have e1 := k_same E.2.2.2.2.2.1 (j := 0) rfl hK (fun x y => k_raI)
  subst e1
  exact kk q H1 ⟨hP, hD, hS⟩
theorem k_newJ {n : Int32} {N' : Nat} (E : k_E M p s m args meth c D cs) (hw : Cond.arrayClass .long ∈ q_words) (hA : ∀ q : Nat, s.heap.size ≤ q → A q) (hn : ¬ n < 0) (hN : n.toNatClampNeg = N') (hN2 : N' ≤ 10000) (hcells : cells + 1 ≤ R.cells) (hslots : slots + N' ≤ R.slots) (hdg : decode (q_cc M) pc = .ok (.newarray .long, 2)) (S : k_S A s.heap D H locs ws) (kk : ∀ (q : Nat) (H1 : Heap), k_S A s.heap D H1 locs (ws ++ [(q, k_z cs 1 N')]) → W p l e R s m args below meth c H1 locs (cells + 1) (slots + N') Q (F0 m (pc + 2) la (.ref q :: st))) : W p l e R s m args below meth c H locs cells slots Q (F0 m pc la (.int n :: st)) := by
  refine va_newa (atype := .long) (ty := .long) (a0 := (N', .inr (.inl (fun _ => Int64.ofInt 0)))) E.1 E.2.1 (k_w E hw) rfl E.2.2.2.2.2.1 S.1 S.2.1 S.2.2 hA (fun _ => rfl) hn hN (by show N' * 8 ≤ 536870912; omega) hcells hslots hdg (fun q cA H1 hK hP hD hS => ?_)
  have e1 := k_same E.2.2.2.2.2.1 (j := 1) rfl hK (fun x y => k_raJ)
  subst e1
  exact kk q H1 ⟨hP, hD, hS⟩
theorem k_newB {n : Int32} {N' : Nat} (E : k_E M p s m args meth c D cs) (hw : Cond.arrayClass .byte ∈ q_words) (hA : ∀ q : Nat, s.heap.size ≤ q → A q) (hn : ¬ n < 0) (hN : n.toNatClampNeg = N') (hN2 : N' ≤ 10000) (hcells : cells + 1 ≤ R.cells) (hslots : slots + N' ≤ R.slots) (hdg : decode (q_cc M) pc = .ok (.newarray .byte, 2)) (S : k_S A s.heap D H locs ws) (kk : ∀ (q : Nat) (H1 : Heap), k_S A s.heap D H1 locs (ws ++ [(q, k_z cs 2 N')]) → W p l e R s m args below meth c H1 locs (cells + 1) (slots + N') Q (F0 m (pc + 2) la (.ref q :: st))) : W p l e R s m args below meth c H locs cells slots Q (F0 m pc la (.int n :: st)) := by
  refine va_newa (atype := .byte) (ty := .byte) (a0 := (N', .inl (fun _ => Int32.ofInt 0))) E.1 E.2.1 (k_w E hw) rfl E.2.2.2.2.2.1 S.1 S.2.1 S.2.2 hA (fun _ => rfl) hn hN (by show N' * 1 ≤ 536870912; omega) hcells hslots hdg (fun q cA H1 hK hP hD hS => ?_)
  have e1 := k_same E.2.2.2.2.2.1 (j := 2) rfl hK (fun x y => k_raB)
  subst e1
  exact kk q H1 ⟨hP, hD, hS⟩
theorem k_newC {n : Int32} {N' : Nat} (E : k_E M p s m args meth c D cs) (hw : Cond.arrayClass .char ∈ q_words) (hA : ∀ q : Nat, s.heap.size ≤ q → A q) (hn : ¬ n < 0) (hN : n.toNatClampNeg = N') (hN2 : N' ≤ 10000) (hcells : cells + 1 ≤ R.cells) (hslots : slots + N' ≤ R.slots) (hdg : decode (q_cc M) pc = .ok (.newarray .char, 2)) (S : k_S A s.heap D H locs ws) (kk : ∀ (q : Nat) (H1 : Heap), k_S A s.heap D H1 locs (ws ++ [(q, k_z cs 3 N')]) → W p l e R s m args below meth c H1 locs (cells + 1) (slots + N') Q (F0 m (pc + 2) la (.ref q :: st))) : W p l e R s m args below meth c H locs cells slots Q (F0 m pc la (.int n :: st)) := by
  refine va_newa (atype := .char) (ty := .char) (a0 := (N', .inl (fun _ => Int32.ofInt 0))) E.1 E.2.1 (k_w E hw) rfl E.2.2.2.2.2.1 S.1 S.2.1 S.2.2 hA (fun _ => rfl) hn hN (by show N' * 2 ≤ 536870912; omega) hcells hslots hdg (fun q cA H1 hK hP hD hS => ?_)
  have e1 := k_same E.2.2.2.2.2.1 (j := 3) rfl hK (fun x y => k_raC)
  subst e1
  exact kk q H1 ⟨hP, hD, hS⟩
/-- a row of references, empty -/
theorem k_newR {C : String} {t idx : Nat} {n : Int32} {N' : Nat} (E : k_E M p s m args meth c D cs) (hw : Cond.classLink (q_own M) idx C ∈ q_words) (hO : va_AO C s) (ht : (q_tys cs)[t]? = some (cs t, .object C)) (hA : ∀ q : Nat, s.heap.size ≤ q → A q) (hn : ¬ n < 0) (hN : n.toNatClampNeg = N') (hN2 : N' ≤ 10000) (hcells : cells + 1 ≤ R.cells) (hslots : slots + N' ≤ R.slots) (hdg : decode (q_cc M) pc = .ok (.anewarray idx, 3)) (S : k_S A s.heap D H locs ws) (kk : ∀ (q : Nat) (H1 : Heap), k_S A s.heap D H1 locs (ws ++ [(q, .inl (cs t, N', .inr (.inr (.inr (.inr (fun _ => none))))))]) → W p l e R s m args below meth c H1 locs (cells + 1) (slots + N') Q (F0 m (pc + 3) la (.ref q :: st))) : W p l e R s m args below meth c H locs cells slots Q (F0 m pc la (.int n :: st)) := by
  refine va_newq E.1 E.2.1 E.2.2.2.1 (k_w E hw) hO E.2.2.2.2.2.1 S.1 S.2.1 S.2.2 hA hn hN (by omega) hcells hslots hdg (fun q cA H1 hK hP hD hS => ?_)
  have e1 := k_same E.2.2.2.2.2.1 (j := t) ht hK (fun x y => k_raO)
  subst e1
  exact kk q H1 ⟨hP, hD, hS⟩
/-- the first call of a constructor -/
theorem k_obj {idx : Nat} {h : Nat} (E : k_E M p s m args meth c D cs) (h1 : Cond.methodLink (q_own M) idx objectInit ∈ q_words) (h2 : Cond.instanceMethod objectInit ∈ q_words) (h3 : Cond.code objectInit ⟨#[0xb1]⟩ 1 none ∈ q_words) (hla : la.size = q_nL M) (hd : decode (q_cc M) pc = .ok (.invokespecial idx, 3)) (hf : 1 ≤ R.frames) (hlo : 20 ≤ R.locals) (kk : W p l e R s m args below meth c H locs cells slots Q (F0 m (pc + 3) la [])) : W p l e R s m args below meth c H locs cells slots Q (F0 m pc la [.ref h]) := by
  have hr : 2 * (F0 m pc la [.ref h]).monitorRoom + (([] : List Value).map fun v => v.category).sum ≤ 8 := lv_room (Nat.zero_le _)
  exact W.objInit E.1 E.2.1 E.2.2.2.1 (k_w E h1) (k_w E h2) (k_w E h3) rfl (by rw [E.2.2.1]; exact hla) rfl hd hf (by omega) kk
theorem k_ret {sh : q_H} {σ : q_S} {ad : Int → Nat} {sz : Nat} (E : k_E M p s m args meth c D cs) (hA : A = k_A h0 sz) (had : ad 0 = h0) (S : k_S A s.heap D H locs (q_wld ad cs sh σ)) (hdg : decode (q_cc M) pc = .ok (.return_, 1)) : W p l e R s m args below meth c H locs cells slots (MQ below (k_Q D cs h0 sz sh σ) args s cells slots (k_A h0 sz)) (F0 m pc la []) := by
  subst hA
  have hlocks := E.2.2.2.2.2.2.2.2.2.2
  exact W.vret E.1 E.2.1 E.2.2.2.2.2.2.2.2.1 (fun t ht hW => ⟨⟨rfl, ad, had, by rw [ht]; exact S.1, S.2.1⟩, S.2.2.F ht⟩) S.2.2.2.2 hdg hlocks
end KB
