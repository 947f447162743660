/-! THE CLAIM OUT OF ONE WALK OF THE LAW'S BODY: its head -/
def R_law : String := "TrackChamberLaw"
def lw_P (b : Addr) (xs : List Int32) (args : Array Value) (s : State) : Prop := args = #[.ref b] ∧ s.IntsAt b xs ∧ xs.length ≤ 3584 ∧ (Jvm.Cond.and given_1 narrow_1).before args s = true
def lw_Q (_ : Array Value) (s : State) (o : Outcome) (t : State) : Prop := o = .returned (some (.int 1)) ∧ Framed s o t [] 600000 7302250
def lw_Z (below : List Frame) (a : Array Value) (s : State) : State → Prop := fun t => ∃ o, t.status = .running ∧ Ended t below o ∧ lw_Q a s o t
/-- the law's own end, with 1 on the stack, nothing written that was there before, its room as the claim has it -/
theorem lw_ret {p : Program} {l : Launch} {e : Env} {s : State} {m : MethodId} {below : List Frame} {meth : Method} {c : Code} {b : Nat} (hx : p.tables.exec = Jvm.exec) (hb : c.code = code) (hr : meth.sig.returnType = ret) (hlocks : meth.locks = false) {pc : Nat} {H : Heap} {ls : Array Slot} (hdg : decode code pc = .ok (.ireturn, 1)) : W p l e room_1 s m #[Value.ref b] below meth c H [] 600000 7302250 (lw_Z below #[Value.ref b] s) (F0 m pc ls [.int 1]) := by
  intro T hT X
  obtain ⟨fs, hret, hrun, hended, hW, hframe⟩ := X.leave (v := some (.int 1)) (hlocks := hlocks) (fun h => by rw [hr] at h; cases h)
  have hmeth' : T.vm.method? m = some meth := X.method'
  refine ⟨T.setFrames fs, ?_, .returned (some (.int 1)), hrun, hended, rfl, ⟨_, rfl⟩, hW, hframe⟩
  jvm_step X.here [X.here.top, hx, hb, hdg, hmeth', hr, ret, narrow_b1]
  (try refine ⟨rfl, ?_⟩); (try refine ⟨rfl, ?_⟩)
  first | (intro acts; rw [hret _ acts rfl rfl rfl]) | rw [hret _ _ rfl rfl rfl]
  exact Steps.refl _
/-- what holds at the law's entry -/
def lw_At (p : Program) (s : State) (m : MethodId) (meth : Method) (c : Code) (b L : Nat) (xs : Nat → Int32) : Prop :=
  p.tables.exec = Jvm.exec ∧ c.code = code ∧ meth.sig.returnType = ret ∧ c.maxLocals = 4 ∧ s.vm.findClass R_law = some m.cls ∧ (∀ w ∈ lw_tbl, w.before #[Value.ref b] s = true) ∧ va_X b L xs s s.heap ∧ b < s.heap.size ∧ meth.locks = false ∧ (Jvm.Cond.and given_1 narrow_1).before #[Value.ref b] s = true
/-! the law's two worlds -/
def l_new (s : State) : Nat → Prop := fun q => s.heap.size ≤ q
def l_F (s : State) (D : va_G) (cs : Nat → ClassId) (aX aM : Int → Nat) : Prop :=
  va_K D vwCl (q_tys cs) s ∧ q_N s ∧ (q_St aX (l_new s) s s.heap ∧ q_inj aX 110 ∧ ∀ q : Nat, q_A aX 110 q → l_new s q) ∧ (q_St aM (l_new s) s s.heap ∧ q_inj aM 22 ∧ ∀ q : Nat, q_A aM 22 q → l_new s q) ∧ ∀ c c' : Nat, c < 110 → c' < 22 → aX c ≠ aM c'
def l_S (s : State) (D : va_G) (cs : Nat → ClassId) (aX aM : Int → Nat) (H : Heap) (locs : List Loc) (σ τ : q_S) : Prop :=
  va_P D vwCl (q_wld aX cs shX σ) H ∧ va_P D vwCl (q_wld aM cs shM τ) H ∧ va_S (l_new s) s.heap H locs ∧ q_rng shX σ ∧ q_rng shM τ
def l_ls (b x y i : Nat) : List (Nat × Value) := [(3, .int (nI i)), (0, .ref b), (1, .ref x), (2, .ref y)]
section LAW
variable {p : Program} {e : Env} {s : State} {m : MethodId} {below : List Frame} {meth : Method} {c : Code} {l : Launch} {b L : Nat} {xs : Nat → Int32} {D : va_G} {cs : Nat → ClassId} {H : Heap} {locs : List Loc} {Z : State → Prop} {la : Array Slot} {pc : Nat}
theorem l_good {M' : q_M} {na : Nat} (hm : q_MB M' na) : GoodIn lw_tbl (q_ws M') := by
  intro w hw
  rcases List.mem_cons.mp hw with rfl | hw
  · exact ⟨(List.mem_filter.mp hm.1).1, good_of_word (List.mem_filter.mp hm.1).2⟩
  · exact ⟨(List.mem_filter.mp hw).1, good_of_word (List.mem_filter.mp hw).2⟩
set_option maxHeartbeats 1000000 in
theorem l_call {sh : q_H} {ad : Int → Nat} {σ : q_S} {M' : q_M} {na idx ci N : Nat} {T : u_T} {fs : List (Nat ⊕ Int)} {av : List q_V} {Q' : Option q_V → q_S → Prop} {rest stk : List Value} (C0 : lw_At p s m meth c b L xs) (hK : va_K D vwCl (q_tys cs) s) (hN : q_N s) (hSt : q_St ad (l_new s) s s.heap) (hin : q_inj ad sh.1) (hnew : ∀ q : Nat, q_A ad sh.1 q → l_new s q) (hrg : q_rng sh σ) (hP : va_P D vwCl (q_wld ad cs sh σ) H) (hS : va_S (l_new s) s.heap H locs) (hla : la.size = 4)
    (hd : decode code pc = .ok (.invokevirtual idx, 3)) (hm : q_MV M' na) (hlk : Cond.methodLink R_law idx (q_nm M') ∈ lw_tbl) (hdp : Nat.ble (q_dp M') 30 = true) (hlen : av.length = na) (hok : q_oks av) (hw : (rest.map fun v => v.category).sum ≤ 8) (hC : q_is sh 0 (.inl (ci, fs))) (hci : vwCl[ci]? = some ((q_nm M').cls, T, N))
    (hct : q_Ct M' sh (.inr (.inr 0) :: av) σ Q') (hstk : stk = (av.map (q_cv ad)).reverse ++ .ref (ad 0) :: rest)
    (kk : ∀ (r : Option q_V) (σ' : q_S) (H' : Heap) (locs' : List Loc), Q' r σ' → q_oks r.toList → q_rng sh σ' → va_P D vwCl (q_wld ad cs sh σ') H' → va_S (l_new s) s.heap H' locs' → (∀ q : Nat, q < H.size → ¬ q_A ad sh.1 q → H'[q]? = H[q]?) → W p l e room_1 s m #[Value.ref b] below meth c H' locs' 600000 7302250 Z (F0 m (pc + 3) la ((r.map (q_cv ad)).toList ++ rest))) :
    W p l e room_1 s m #[Value.ref b] below meth c H locs 600000 7302250 Z (F0 m pc la stk) := by
  subst hstk
  obtain ⟨hx, hb, hr, hml, hown, hts, hX, hbl, hlocks, hgv⟩ := C0
  obtain ⟨n0, hn0, hn1, he⟩ := q_is_at hC (ad := ad) (cs := cs) (σ := σ)
  have hMet := hct l D cs ad ⟨trivial, hok⟩ hrg hin
  have hwd : ∀ w ∈ q_words, w.before #[Value.ref b] s = true := fun w hw => hts w (List.mem_filter.mp hw).1
  have hrecv := va_recv hK hP hci he
  have hpre : ∀ U : State, U.heap = H → s.WarmedH U.vm → va_P D vwCl (q_wld ad cs sh σ) U.heap ∧ va_K D vwCl (q_tys cs) U ∧ q_N U ∧ q_St ad (q_A ad sh.1) U U.heap := by
    intro U hU hW
    refine ⟨by rw [hU]; exact hP, va_K.moved hW.alike hK, q_N.go hW hN, ?_⟩
    rw [hU]
    exact q_St.go hW.alike (fun _ _ _ _ h => vk_R.warm hW h) (fun q h1 h2 => hS.2.1 q h1 h2) hnew hSt
  have hp : PreV s H (q_nm M').cls (ad 0) (va_Pc ((Sum.inr (Sum.inr 0) :: av : List q_V).map (q_cv ad)) (fun U => va_P D vwCl (q_wld ad cs sh σ) U.heap ∧ va_K D vwCl (q_tys cs) U ∧ q_N U ∧ q_St ad (q_A ad sh.1) U U.heap)) (av.map (q_cv ad)) :=
    ⟨q_blind, hrecv, fun U hU hW => ⟨rfl, hpre U hU hW⟩⟩
  have hdl : q_dp M' ≤ 30 := Nat.le_of_ble_eq_true hdp
  have hnl := hm.1.2.2.2
  have hroom : (q_rm M').frames + 1 ≤ room_1.frames ∧ 8 + (q_nL M' + 11) + (q_rm M').locals ≤ room_1.locals := by
    show q_dp M' + 1 ≤ 2048 ∧ 8 + (q_nL M' + 11) + 64 * q_dp M' ≤ 84000
    omega
  have hWW : 2 * (F0 m pc la ((av.map (q_cv ad)).reverse ++ .ref (ad 0) :: rest)).monitorRoom + (rest.map fun v => v.category).sum ≤ 8 := lv_room hw
  intro T0 hT X0
  obtain ⟨v, st₀, t, T', L', h0, X', hL, e1, e2, ⟨⟨r, σ', hq, hok', hrg', hv, hP'⟩, hz, hk⟩, go⟩ := va_runV (p := p) (e := e) (below := below) (cells := 600000) (slots := 7302250) (locs := locs) (R := room_1) (⟨hx, hb, hml, hown, hts⟩ : CallFix p m c code 4 s #[Value.ref b] lw_tbl R_law) hMet ⟨callB_of na hts (l_good hm.1) rfl rfl rfl (hwd _ hm.1.2.1) (hts _ hlk) hm.1.2.2.1 hroom, hwd _ hm.2.1, hwd _ hm.2.2⟩ hp rfl (by simpa using hlen) hla rfl hWW hd ⟨Nat.le_refl _, Nat.le_refl _⟩ T0 hT X0
  cases hv
  rw [h0] at hz hk
  have hS1 : va_S (l_new s) s.heap T'.heap (locs ++ L') := by
    refine ⟨Nat.le_trans hS.1 (by rw [e1]; exact hz), fun q h1 h2 => ?_, fun q hq => ?_⟩
    · rw [e1, hk q (Nat.lt_of_lt_of_le h1 hS.1) (fun z => h2 (hnew q z))]
      exact hS.2.1 q h1 h2
    · rcases List.mem_append.mp hq with h | h
      · exact hS.2.2 q h
      · exact hnew _ (hL q h)
  obtain ⟨t2, a1, b1⟩ := kk r σ' T'.heap (locs ++ L') hq hok' hrg' (by rw [e1]; exact hP') hS1 (fun q h1 h2 => by rw [e1]; exact hk q h1 h2) T' rfl X'
  exact ⟨t2, go t2 a1, b1⟩
theorem q_wld_mem {ad : Int → Nat} {sh : q_H} {σ : q_S} {k : Nat} {x : Nat × va_E} (h : (q_wld ad cs sh σ)[k]? = some x) : k < sh.1 ∧ x.1 = ad k := by
  by_cases hk : k < sh.1
  · rw [q_wld_at hk] at h
    cases h
    exact ⟨hk, rfl⟩
  · exfalso
    unfold q_wld at h
    rw [List.getElem?_eq_none (by simp; omega)] at h
    cases h
variable {aX aM : Int → Nat} {σ τ : q_S}
theorem l_callX {M' : q_M} {na idx : Nat} {av : List q_V} {Q' : Option q_V → q_S → Prop} {rest stk : List Value} (C0 : lw_At p s m meth c b L xs) (F : l_F s D cs aX aM) (S : l_S s D cs aX aM H locs σ τ) (hla : la.size = 4) (hd : decode code pc = .ok (.invokevirtual idx, 3)) (hm : q_MV M' na) (hlk : Cond.methodLink R_law idx (q_nm M') ∈ lw_tbl) (hdp : Nat.ble (q_dp M') 30 = true) (hlen : av.length = na) (hok : q_oks av) (hw : (rest.map fun v => v.category).sum ≤ 8) (hci : vwCl[7]? = some ((q_nm M').cls, TX7, 13)) (hct : q_Ct M' shX (.inr (.inr 0) :: av) σ Q') (hstk : stk = (av.map (q_cv aX)).reverse ++ .ref (aX 0) :: rest)
    (kk : ∀ (r : Option q_V) (σ' : q_S) (H' : Heap) (locs' : List Loc), Q' r σ' → q_oks r.toList → l_S s D cs aX aM H' locs' σ' τ → W p l e room_1 s m #[Value.ref b] below meth c H' locs' 600000 7302250 Z (F0 m (pc + 3) la ((r.map (q_cv aX)).toList ++ rest))) :
    W p l e room_1 s m #[Value.ref b] below meth c H locs 600000 7302250 Z (F0 m pc la stk) := by
  obtain ⟨hK, hN, ⟨hSt, hin, hnew⟩, _, hdj⟩ := F
  refine l_call C0 hK hN hSt hin hnew S.2.2.2.1 S.1 S.2.2.1 hla hd hm hlk hdp hlen hok hw xi0 hci hct hstk (fun r σ' H' locs' hq hok' hrg hP hS hk => kk r σ' H' locs' hq hok' ⟨hP, S.2.1.kept (fun k x hx => ?_), hS, hrg, S.2.2.2.2⟩)
  obtain ⟨hk1, hk2⟩ := q_wld_mem hx
  have hlt := (S.2.1 k x hx).lt
  refine hk _ hlt (fun z => ?_)
  obtain ⟨c1, hc1, e1⟩ := z
  exact hdj c1 k hc1 hk1 (e1.symm.trans hk2)
theorem l_callM {M' : q_M} {na idx : Nat} {av : List q_V} {Q' : Option q_V → q_S → Prop} {rest stk : List Value} (C0 : lw_At p s m meth c b L xs) (F : l_F s D cs aX aM) (S : l_S s D cs aX aM H locs σ τ) (hla : la.size = 4) (hd : decode code pc = .ok (.invokevirtual idx, 3)) (hm : q_MV M' na) (hlk : Cond.methodLink R_law idx (q_nm M') ∈ lw_tbl) (hdp : Nat.ble (q_dp M') 30 = true) (hlen : av.length = na) (hok : q_oks av) (hw : (rest.map fun v => v.category).sum ≤ 8) (hci : vwCl[8]? = some ((q_nm M').cls, TX8, 40)) (hct : q_Ct M' shM (.inr (.inr 0) :: av) τ Q') (hstk : stk = (av.map (q_cv aM)).reverse ++ .ref (aM 0) :: rest)
    (kk : ∀ (r : Option q_V) (τ' : q_S) (H' : Heap) (locs' : List Loc), Q' r τ' → q_oks r.toList → l_S s D cs aX aM H' locs' σ τ' → W p l e room_1 s m #[Value.ref b] below meth c H' locs' 600000 7302250 Z (F0 m (pc + 3) la ((r.map (q_cv aM)).toList ++ rest))) :
    W p l e room_1 s m #[Value.ref b] below meth c H locs 600000 7302250 Z (F0 m pc la stk) := by
  obtain ⟨hK, hN, _, ⟨hSt, hin, hnew⟩, hdj⟩ := F
  refine l_call C0 hK hN hSt hin hnew S.2.2.2.2 S.2.1 S.2.2.1 hla hd hm hlk hdp hlen hok hw mi0 hci hct hstk (fun r τ' H' locs' hq hok' hrg hP hS hk => kk r τ' H' locs' hq hok' ⟨S.1.kept (fun k x hx => ?_), hP, hS, S.2.2.2.1, hrg⟩)
  obtain ⟨hk1, hk2⟩ := q_wld_mem hx
  have hlt := (S.1 k x hx).lt
  refine hk _ hlt (fun z => ?_)
  obtain ⟨c1, hc1, e1⟩ := z
  exact hdj k c1 hk1 hc1 (hk2.symm.trans e1)
/-- an int of the script -/
theorem l_arg {x y i k : Nat} {kv : Int} {st : List Value} (C0 : lw_At p s m meth c b L xs) (hS : va_S (l_new s) s.heap H locs) (hl : lv_has la 4 (l_ls b x y i)) (hi : i + k < L) (hL : L ≤ 3584) (hk : Int32.ofInt kv = nI k) (h1 : decode code pc = .ok (.aload_n 0, 1)) (h2 : decode code (pc + 1) = .ok (.iload_n 3, 1)) (h3 : decode code (pc + 2) = .ok (.iconst kv, 1)) (h4 : decode code (pc + 3) = .ok (.iadd, 1)) (h5 : decode code (pc + 4) = .ok (.iaload, 1)) (kk : W p l e room_1 s m #[Value.ref b] below meth c H locs 600000 7302250 Z (F0 m (pc + 5) la (.int (Int32.ofInt (xs (i + k)).toInt) :: st))) : W p l e room_1 s m #[Value.ref b] below meth c H locs 600000 7302250 Z (F0 m pc la st) := by
  obtain ⟨hx, hb, hr, hml, hown, hts, hX, hbl, hlocks, hgv⟩ := C0
  have hbA : ¬ l_new s b := Nat.not_le.mpr hbl
  refine lv_aload_n hx hb h1 rfl (lv_at hl 1 rfl) ?_
  refine lv_iload_n hx hb h2 rfl (lv_at hl 0 rfl) ?_
  refine lv_iconst hx hb h3 hk ?_
  refine lv_iadd hx hb h4 ?_
  rw [nI_add]
  refine va_sld hx hb hX hbl hbA hS (vp_in_nI hi (by omega)) h5 ?_
  rw [nI_clamp (by omega), ← Int32.ofInt_toInt (xs (i + k))]
  rw [Int32.ofInt_toInt (xs (i + k))]
  rw [Int32.ofInt_toInt (xs (i + k))] at kk
  exact kk
theorem l_arg6 {x y i k : Nat} {kv : Int} {st : List Value} (C0 : lw_At p s m meth c b L xs) (hS : va_S (l_new s) s.heap H locs) (hl : lv_has la 4 (l_ls b x y i)) (hi : i + k < L) (hL : L ≤ 3584) (hk : (Int8.ofInt kv).toInt32 = nI k) (h1 : decode code pc = .ok (.aload_n 0, 1)) (h2 : decode code (pc + 1) = .ok (.iload_n 3, 1)) (h3 : decode code (pc + 2) = .ok (.bipush kv, 2)) (h4 : decode code (pc + 4) = .ok (.iadd, 1)) (h5 : decode code (pc + 5) = .ok (.iaload, 1)) (kk : W p l e room_1 s m #[Value.ref b] below meth c H locs 600000 7302250 Z (F0 m (pc + 6) la (.int (Int32.ofInt (xs (i + k)).toInt) :: st))) : W p l e room_1 s m #[Value.ref b] below meth c H locs 600000 7302250 Z (F0 m pc la st) := by
  obtain ⟨hx, hb, hr, hml, hown, hts, hX, hbl, hlocks, hgv⟩ := C0
  have hbA : ¬ l_new s b := Nat.not_le.mpr hbl
  refine lv_aload_n hx hb h1 rfl (lv_at hl 1 rfl) ?_
  refine lv_iload_n hx hb h2 rfl (lv_at hl 0 rfl) ?_
  refine lv_bipush hx hb h3 hk ?_
  refine lv_iadd hx hb h4 ?_
  rw [nI_add]
  refine va_sld hx hb hX hbl hbA hS (vp_in_nI hi (by omega)) h5 ?_
  rw [nI_clamp (by omega)]
  rw [Int32.ofInt_toInt (xs (i + k))] at kk
  exact kk
/-- pushes: from pc to pc' these values come on the stack -/
def l_Pu (p : Program) (l : Launch) (e : Env) (s : State) (m : MethodId) (b : Nat) (below : List Frame) (meth : Method) (c : Code) (Z : State → Prop) (la : Array Slot) (pc pc' : Nat) (vs : List Value) : Prop := ∀ (H : Heap) (locs : List Loc) (st : List Value), va_S (l_new s) s.heap H locs → W p l e room_1 s m #[Value.ref b] below meth c H locs 600000 7302250 Z (F0 m pc' la (vs ++ st)) → W p l e room_1 s m #[Value.ref b] below meth c H locs 600000 7302250 Z (F0 m pc la st)
/-- behind a round of the law's loop -/
def l_Go (p : Program) (l : Launch) (e : Env) (s : State) (m : MethodId) (b : Nat) (below : List Frame) (meth : Method) (c : Code) (D : va_G) (cs : Nat → ClassId) (aX aM : Int → Nat) (Z : State → Prop) (la : Array Slot) : Prop := ∀ (H : Heap) (locs : List Loc) (ω τ t : q_S), Rel ω τ → l_S s D cs aX aM H locs ω (ovM τ t) → W p l e room_1 s m #[Value.ref b] below meth c H locs 600000 7302250 Z (F0 m 1547 la [])
set_option maxHeartbeats 1000000 in
theorem l_caseI {ω τ t : q_S} {MX MM : q_M} {av : List q_V} {na A pc1 pc2 pc3 pc4 i1 i2 : Nat} {off : Int} (C0 : lw_At p s m meth c b L xs) (F : l_F s D cs aX aM) (S : l_S s D cs aX aM H locs ω (ovM τ t)) (hR : Rel ω τ) (hce : cE ω (pM (τ 1))) (hT : tT ω = tT (tx τ)) (hla : la.size = 4) (hcs : CS kI MX MM av) (hok : q_oks av) (hlen : av.length = na)
    (p1 : l_Pu p l e s m b below meth c Z la A pc1 ((av.map (q_cv aX)).reverse ++ [.ref (aX 0)])) (d1 : decode code pc1 = .ok (.invokevirtual i1, 3)) (m1 : q_MV MX na) (k1 : Cond.methodLink R_law i1 (q_nm MX) ∈ lw_tbl) (b1 : Nat.ble (q_dp MX) 30 = true) (c1 : vwCl[7]? = some ((q_nm MX).cls, TX7, 13)) (e1 : pc1 + 3 = pc2)
    (p2 : l_Pu p l e s m b below meth c Z la pc2 pc3 ((av.map (q_cv aM)).reverse ++ [.ref (aM 0)])) (d2 : decode code pc3 = .ok (.invokevirtual i2, 3)) (m2 : q_MV MM na) (k2 : Cond.methodLink R_law i2 (q_nm MM) ∈ lw_tbl) (b2 : Nat.ble (q_dp MM) 30 = true) (c2 : vwCl[8]? = some ((q_nm MM).cls, TX8, 40)) (e2 : pc3 + 3 = pc4)
    (d3 : decode code pc4 = .ok (.if_icmp .eq off, 3)) (e3 : (pc4 : Int) + off = ((1547 : Nat) : Int)) (kk : l_Go p l e s m b below meth c D cs aX aM Z la) : W p l e room_1 s m #[Value.ref b] below meth c H locs 600000 7302250 Z (F0 m A la []) := by
  subst e1
  subst e2
  obtain ⟨Q, Q', hX, hM, hs, hres⟩ := hcs ω τ t hR hce hT
  refine p1 H locs [] S.2.2.1 ?_
  refine l_callX (rest := []) C0 F S hla d1 m1 k1 b1 hlen hok (Nat.zero_le _) c1 hX (by rw [List.append_assoc]; rfl) (fun r σ' H1 l1 hq hok1 S1 => ?_)
  obtain ⟨z, rfl⟩ := hs r σ' hq
  refine p2 H1 l1 [.int (Int32.ofInt z)] S1.2.2.1 ?_
  refine l_callM (rest := [.int (Int32.ofInt z)]) C0 F S1 hla d2 m2 k2 b2 hlen hok (Nat.le_of_ble_eq_true rfl) c2 hM (by rw [List.append_assoc]; rfl) (fun r' τ' H2 l2 hq' hok2 S2 => ?_)
  obtain ⟨hrr, σ2, s2, τ2, s2', e4, e5, hR2⟩ := hres _ σ' r' τ' hq hq'
  rw [← hrr]
  refine lv_icmp_eq C0.1 C0.2.1 d3 e3 (fun _ => ?_) (fun h => absurd rfl h)
  rw [e5] at S2
  exact kk H2 l2 σ' τ2 s2' (by rw [e4]; exact Rel_ov hR2) S2
set_option maxHeartbeats 1000000 in
theorem l_caseJ {ω τ t : q_S} {MX MM : q_M} {av : List q_V} {na A pc1 pc2 pc3 pc4 i1 i2 : Nat} {off : Int} (C0 : lw_At p s m meth c b L xs) (F : l_F s D cs aX aM) (S : l_S s D cs aX aM H locs ω (ovM τ t)) (hR : Rel ω τ) (hce : cE ω (pM (τ 1))) (hT : tT ω = tT (tx τ)) (hla : la.size = 4) (hcs : CS kJ MX MM av) (hok : q_oks av) (hlen : av.length = na)
    (p1 : l_Pu p l e s m b below meth c Z la A pc1 ((av.map (q_cv aX)).reverse ++ [.ref (aX 0)])) (d1 : decode code pc1 = .ok (.invokevirtual i1, 3)) (m1 : q_MV MX na) (k1 : Cond.methodLink R_law i1 (q_nm MX) ∈ lw_tbl) (b1 : Nat.ble (q_dp MX) 30 = true) (c1 : vwCl[7]? = some ((q_nm MX).cls, TX7, 13)) (e1 : pc1 + 3 = pc2)
    (p2 : l_Pu p l e s m b below meth c Z la pc2 pc3 ((av.map (q_cv aM)).reverse ++ [.ref (aM 0)])) (d2 : decode code pc3 = .ok (.invokevirtual i2, 3)) (m2 : q_MV MM na) (k2 : Cond.methodLink R_law i2 (q_nm MM) ∈ lw_tbl) (b2 : Nat.ble (q_dp MM) 30 = true) (c2 : vwCl[8]? = some ((q_nm MM).cls, TX8, 40)) (e2 : pc3 + 3 = pc4)
    (d3 : decode code pc4 = .ok (.lcmp, 1)) (d4 : decode code (pc4 + 1) = .ok (.ifCond .eq off, 3)) (e3 : ((pc4 + 1 : Nat) : Int) + off = ((1547 : Nat) : Int)) (kk : l_Go p l e s m b below meth c D cs aX aM Z la) : W p l e room_1 s m #[Value.ref b] below meth c H locs 600000 7302250 Z (F0 m A la []) := by
  subst e1
  subst e2
  obtain ⟨Q, Q', hX, hM, hs, hres⟩ := hcs ω τ t hR hce hT
  refine p1 H locs [] S.2.2.1 ?_
  refine l_callX (rest := []) C0 F S hla d1 m1 k1 b1 hlen hok (Nat.zero_le _) c1 hX (by rw [List.append_assoc]; rfl) (fun r σ' H1 l1 hq hok1 S1 => ?_)
  obtain ⟨z, rfl⟩ := hs r σ' hq
  refine p2 H1 l1 [.long (Int64.ofInt z)] S1.2.2.1 ?_
  refine l_callM (rest := [.long (Int64.ofInt z)]) C0 F S1 hla d2 m2 k2 b2 hlen hok (Nat.le_of_ble_eq_true rfl) c2 hM (by rw [List.append_assoc]; rfl) (fun r' τ' H2 l2 hq' hok2 S2 => ?_)
  obtain ⟨hrr, σ2, s2, τ2, s2', e4, e5, hR2⟩ := hres _ σ' r' τ' hq hq'
  rw [← hrr]
  refine W.lcmp C0.1 C0.2.1 d3 ?_
  have hc0 : lg_cmp (Int64.ofInt z) (Int64.ofInt z) = 0 := by
    unfold lg_cmp
    rw [if_neg (by simp), if_pos rfl]
  rw [hc0]
  refine lv_if_eq C0.1 C0.2.1 d4 e3 (fun _ => ?_) (fun h => absurd rfl h)
  rw [e5] at S2
  exact kk H2 l2 σ' τ2 s2' (by rw [e4]; exact Rel_ov hR2) S2
end LAW
