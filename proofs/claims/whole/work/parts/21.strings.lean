theorem sv_w : Cond.fieldLink RJ0 9 "java/lang/String" "value" "[B" ∈ q_words := (q_mem 1524 (by decide +kernel) (by decide +kernel))
theorem sc_w : Cond.fieldLink RJ0 15 "java/lang/String" "coder" "B" ∈ q_words := (q_mem 1523 (by decide +kernel) (by decide +kernel))
theorem q_ldcwS {p : Program} {l : Launch} {e : Env} {R : Room} {s : State} {m : MethodId} {args : Array Value} {below : List Frame} {meth : Method} {c : Code} {T : State} {locs : List Loc} {cells slots : Nat}
    (X : Stand p l e R s m args below meth c T locs cells slots) (hexec : p.tables.exec = Jvm.exec) {own text : String} {index : Nat} {a : Addr} (hown : s.vm.findClass own = some m.cls)
    (hconst : (Cond.stringRef own index text).before #[] s = true) (hev : (Term.string own index).eval #[] s none [] s = some (.ref a)) {g : JFrame} (hg : g.method = m) (hdg : decode c.code g.pc = .ok (.ldc_w index, 3)) :
    ∀ target, Steps p.tables e below (T.setTop { g with pc := g.pc + 3, stack := .ref a :: g.stack }) target → Steps p.tables e below (T.setTop g) target := by
  obtain ⟨k, cf, i, a', hk, hcf, hcp, -, hr, hev'⟩ := Cond.stringRef_spec hown hconst
  cases hev.symm.trans hev'
  obtain ⟨k', hk', he⟩ := X.warmed.alike.2.2 _ _ hk
  have hr' : k'.resolved[index]? = some (some (.string a)) := by
    rcases X.warmed.entry hk hk' index with h | ⟨h, -⟩
    · rw [h]; exact hr
    · rw [hr] at h; cases h
  intro target hrest
  subst hg
  jvm_step X.here [hexec, hdg, ldc_w.wp_string (e := e) (s := T) (f := g) X.here.top hk' (by rw [he]; exact hcf) hcp hr']
  exact hrest
section QS
variable {M M' : q_M} {sh : q_H} {pc n idx na : Nat} {ls : List (Option q_V)} {st av : List q_V} {σ : q_S} {Q Q' : Option q_V → q_S → Prop}
theorem q_ldc60 (hd : decode (q_cc M) pc = .ok (.ldc 60, 2)) (hn : pc + 2 = n) (ho : q_own M = "TrackChamber$Tape") (k : q_WP M sh n ls (.inr (.inr 1001) :: st) σ Q) : q_WP M sh pc ls st σ Q := by
  subst hn
  intro p l e s m args below meth c D cs ad H locs la Qf E L O
  have h8 := E.1.2.2.2.2.2.2.2.1.2.2.2.2.2.2.2.1
  have hown := E.1.2.2.2.1
  rw [ho] at hown
  exact va_ldcS E.1.1 E.1.2.1 hown h8 hd (k p l e s m args below meth c D cs ad H locs la Qf E L ⟨trivial, O⟩)
theorem q_ldcw410 (hd : decode (q_cc M) pc = .ok (.ldc_w 410, 3)) (hn : pc + 3 = n) (ho : q_own M = "TrackChamber") (k : q_WP M sh n ls (.inr (.inr 1001) :: st) σ Q) : q_WP M sh pc ls st σ Q := by
  subst hn
  intro p l e s m args below meth c D cs ad H locs la Qf E L O
  have h9 := E.1.2.2.2.2.2.2.2.1.2.2.2.2.2.2.2.2.1
  have hown := E.1.2.2.2.1
  rw [ho] at hown
  have k' := k p l e s m args below meth c D cs ad H locs la Qf E L ⟨trivial, O⟩
  intro T hT X
  obtain ⟨t, a1, b1⟩ := k' T hT X
  exact ⟨t, q_ldcwS X E.1.1 hown h9.1 h9.2 (g := F0 m pc la (st.map (q_cv ad))) rfl (by rw [E.1.2.1]; exact hd) t a1, b1⟩
theorem q_getSV (hd : decode (q_cc M) pc = .ok (.getfield 9, 3)) (hn : pc + 3 = n) (ho : q_own M = RJ0) (k : q_WP M sh n ls (.inr (.inr 1002) :: st) σ Q) : q_WP M sh pc ls (.inr (.inr 1001) :: st) σ Q := by
  subst hn
  intro p l e s m args below meth c D cs ad H locs la Qf E L O
  have hown := E.1.2.2.2.1
  rw [ho] at hown
  exact vk_getf E.1.1 E.1.2.1 E.1.2.2.2.2.2.2.2.1.2.2.2.2.1 E.2.1.2.2 hown (q_hw E.1.2.2.2.2.1 sv_w) (fun _ h => h) hd (k p l e s m args below meth c D cs ad H locs la Qf E L ⟨trivial, O.2⟩)
theorem q_getSC (hd : decode (q_cc M) pc = .ok (.getfield 15, 3)) (hn : pc + 3 = n) (ho : q_own M = RJ0) (k : q_WP M sh n ls (.inl 0 :: st) σ Q) : q_WP M sh pc ls (.inr (.inr 1001) :: st) σ Q := by
  subst hn
  intro p l e s m args below meth c D cs ad H locs la Qf E L O
  have hown := E.1.2.2.2.1
  rw [ho] at hown
  exact vk_getf E.1.1 E.1.2.1 E.1.2.2.2.2.2.2.2.1.2.2.2.1 E.2.1.2.2 hown (q_hw E.1.2.2.2.2.1 sc_w) (fun _ h => h) hd (k p l e s m args below meth c D cs ad H locs la Qf E L ⟨q_0, O.2⟩)
theorem q_getCS (hd : decode (q_cc M) pc = .ok (.getstatic 38, 3)) (hn : pc + 3 = n) (ho : q_own M = RJ0) (k : q_WP M sh n ls (.inl 1 :: st) σ Q) : q_WP M sh pc ls st σ Q := by
  subst hn
  intro p l e s m args below meth c D cs ad H locs la Qf E L O
  have hown := E.1.2.2.2.1
  rw [ho] at hown
  exact va_gets E.1.1 E.1.2.1 E.1.2.2.2.2.2.2.2.1.2.2.2.2.2.2.1 E.2.1.2.2 hown (q_hw E.1.2.2.2.2.1 sJ0_38) (fun _ h => h) hd (k p l e s m args below meth c D cs ad H locs la Qf E L ⟨by constructor <;> decide, O⟩)
theorem q_lenS (hd : decode (q_cc M) pc = .ok (.arraylength, 1)) (hn : pc + 1 = n) (k : q_WP M sh n ls (.inl 12 :: st) σ Q) : q_WP M sh pc ls (.inr (.inr 1002) :: st) σ Q := by
  subst hn
  intro p l e s m args below meth c D cs ad H locs la Qf E L O
  exact va_tlen E.1.1 E.1.2.1 E.1.2.2.2.2.2.2.2.1.2.2.2.2.2.1 E.2.1.2.2 rfl hd (k p l e s m args below meth c D cs ad H locs la Qf E L ⟨by constructor <;> decide, O.2⟩)
theorem q_let_in (k : Nat) : q_i32 (q_let.getD k 0) := by
  by_cases h : k < 12
  · have h2 : ∀ k : Fin 12, -2147483648 ≤ q_let.getD k 0 ∧ q_let.getD k 0 < 2147483648 := by decide
    exact h2 ⟨k, h⟩
  · have h3 : q_let.length = 12 := rfl
    have : q_let[k]? = none := List.getElem?_eq_none (by omega)
    rw [List.getD_eq_getElem?_getD, this]
    exact q_0
theorem q_balS {i : Int} (hd : decode (q_cc M) pc = .ok (.baload, 1)) (hn : pc + 1 = n) (hi : 0 ≤ i ∧ i < 12) (kk : q_WP M sh n ls (.inl (q_let.getD i.toNat 0) :: st) σ Q) : q_WP M sh pc ls (.inl i :: .inr (.inr 1002) :: st) σ Q := by
  subst hn
  intro p l e s m args below meth c D cs ad H locs la Qf E L O
  obtain ⟨hin, hcl⟩ := q_idx (n := 12) O.1 hi
  have k' := kk p l e s m args below meth c D cs ad H locs la Qf E L ⟨q_let_in _, O.2.2⟩
  refine va_tb E.1.1 E.1.2.1 E.1.2.2.2.2.2.2.2.1.2.2.2.2.2.1 E.2.1.2.2 hin rfl hd ?_
  have : (Int32.ofInt i).toNatClampNeg = i.toNat := by omega
  rw [this]
  exact k'
set_option maxHeartbeats 1000000 in
/-- an instance method of the text of the letters -/
theorem q_callT (hd : decode (q_cc M) pc = .ok (.invokevirtual idx, 3)) (hn : pc + 3 = n) (hm : q_MV M' na) (hcl : (q_nm M').cls = "java/lang/String") (hlk : q_LK (q_own M) idx (q_nm M')) (hdp : q_dp M' + 1 ≤ q_dp M) (hlen : av.length = na) (hw : Nat.ble (q_sum st) 8 = true)
    (hct : q_Ct M' sh (.inr (.inr 1001) :: av) σ Q') {stk : List q_V} (hstk : stk = av.reverse ++ .inr (.inr 1001) :: st) (kk : ∀ r σ', Q' r σ' → q_WP M sh n ls (r.toList ++ st) σ' Q) : q_WP M sh pc ls stk σ Q := by
  subst hn
  subst hstk
  intro p l e s m args below meth c D cs ad H locs la Qf E L O
  have hsp : ∀ (a : List q_V) (b : List q_V), q_oks (a ++ b) → q_oks a ∧ q_oks b := by
    intro a b h
    induction a with
    | nil => exact ⟨trivial, h⟩
    | cons v r ih => exact ⟨⟨h.1, (ih h.2).1⟩, (ih h.2).2⟩
  have hO := hsp _ _ O
  have hav : q_oks (.inr (.inr 1001) :: av) := by
    refine ⟨trivial, ?_⟩
    have h1 : ∀ v ∈ av, q_ok v := fun v hv => q_oks_mem hO.1 (List.mem_reverse.mpr hv)
    clear hO O hlen hct
    induction av with
    | nil => trivial
    | cons v r ih => exact ⟨h1 v List.mem_cons_self, ih (fun u hu => h1 u (List.mem_cons_of_mem _ hu))⟩
  have hMet := hct l D cs ad hav E.2.1.1 E.1.2.2.2.2.2.2.2.2
  have hS : CallFix p m c (q_cc M) (q_nL M) s args (q_ws M) (q_own M) := ⟨E.1.1, E.1.2.1, E.1.2.2.1, E.1.2.2.2.1, E.1.2.2.2.2.1⟩
  have hrecv : ∃ cell : Cell, H[ad 1001]? = some cell ∧ cell.vm.isStatics = false ∧ s.vm.findClass (q_nm M').cls = some cell.cls := by
    obtain ⟨cell, h1, h2, h3, -⟩ := E.1.2.2.2.2.2.2.2.1.2.2.1.kept E.2.1.2.2.2.1
    exact ⟨cell, h1, h2, by rw [hcl]; exact h3⟩
  have hp : PreV s H (q_nm M').cls (ad 1001) (va_Pc ((Sum.inr (Sum.inr 1001) :: av : List q_V).map (q_cv ad)) (fun U => va_P D vwCl (q_wld ad cs sh σ) U.heap ∧ va_K D vwCl (q_tys cs) U ∧ q_N U ∧ q_St ad (q_A ad sh.1) U U.heap)) (av.map (q_cv ad)) :=
    ⟨q_blind, hrecv, fun U hU hW => ⟨rfl, q_pre E U hU hW⟩⟩
  have hini := q_hw E.1.2.2.2.2.1 hm.1.2.1
  have hstack : ((av.reverse ++ .inr (.inr 1001) :: st).map (q_cv ad)) = (av.map (q_cv ad)).reverse ++ .ref (ad 1001) :: st.map (q_cv ad) := by
    rw [List.map_append, List.map_reverse]
    rfl
  have hWW : 2 * (F0 m pc la ((av.reverse ++ .inr (.inr 1001) :: st).map (q_cv ad))).monitorRoom + ((st.map (q_cv ad)).map fun v => v.category).sum ≤ 8 := lv_room (by rw [q_sum_eq]; exact Nat.le_of_ble_eq_true hw)
  rcases hlk with hlk | ⟨host, hlk⟩
  · exact q_after E L hO.2.2 (va_runV hS hMet ⟨callB_of na E.1.2.2.2.2.1 (q_good hm.1) rfl rfl rfl hini (q_hw E.1.2.2.2.2.1 hlk) hm.1.2.2.1 (q_room_ok hm.1 hdp), q_hw E.1.2.2.2.2.1 hm.2.1, q_hw E.1.2.2.2.2.1 hm.2.2⟩ hp rfl (by simpa using hlen) L.1 hstack hWW hd ⟨Nat.le_refl _, Nat.le_refl _⟩) kk
  · exact q_after E L hO.2.2 (va_runVN hS hMet ⟨va_cnB na E.1.2.2.2.2.1 (q_good hm.1) rfl rfl rfl (E.1.2.2.2.2.2.2.1 _ hlk) hini hm.1.2.2.1 (q_room_ok hm.1 hdp), q_hw E.1.2.2.2.2.1 hm.2.1, q_hw E.1.2.2.2.2.1 hm.2.2⟩ hp rfl (by simpa using hlen) L.1 hstack hWW hd ⟨Nat.le_refl _, Nat.le_refl _⟩) kk
theorem q_t0 {v : q_V} {σ1 : q_S} (hd : decode (q_cc M) pc = .ok (.invokevirtual idx, 3)) (hn : pc + 3 = n) (hct : q_Ct M' sh [.inr (.inr 1001)] σ (fun r σ' => r = some v ∧ σ' = σ1)) (hm : q_MV M' 0) (hcl : (q_nm M').cls = "java/lang/String") (hlk : q_LK (q_own M) idx (q_nm M')) (hdp : Nat.ble (q_dp M' + 1) (q_dp M) = true) (hw : Nat.ble (q_sum st) 8 = true) (kk : q_WP M sh n ls (v :: st) σ1 Q) : q_WP M sh pc ls (.inr (.inr 1001) :: st) σ Q :=
  q_callT (av := []) hd hn hm hcl hlk (Nat.le_of_ble_eq_true hdp) rfl hw hct rfl (fun r σ' ⟨e, h⟩ => by subst e; subst h; exact kk)
theorem q_t1 {v a1 : q_V} {σ1 : q_S} (hd : decode (q_cc M) pc = .ok (.invokevirtual idx, 3)) (hn : pc + 3 = n) (hct : q_Ct M' sh [.inr (.inr 1001), a1] σ (fun r σ' => r = some v ∧ σ' = σ1)) (hm : q_MV M' 1) (hcl : (q_nm M').cls = "java/lang/String") (hlk : q_LK (q_own M) idx (q_nm M')) (hdp : Nat.ble (q_dp M' + 1) (q_dp M) = true) (hw : Nat.ble (q_sum st) 8 = true) (kk : q_WP M sh n ls (v :: st) σ1 Q) : q_WP M sh pc ls (a1 :: .inr (.inr 1001) :: st) σ Q :=
  q_callT (av := [a1]) hd hn hm hcl hlk (Nat.le_of_ble_eq_true hdp) rfl hw hct rfl (fun r σ' ⟨e, h⟩ => by subst e; subst h; exact kk)
theorem q_t2 {v a1 a2 : q_V} {σ1 : q_S} (hd : decode (q_cc M) pc = .ok (.invokevirtual idx, 3)) (hn : pc + 3 = n) (hct : q_Ct M' sh [.inr (.inr 1001), a1, a2] σ (fun r σ' => r = some v ∧ σ' = σ1)) (hm : q_MV M' 2) (hcl : (q_nm M').cls = "java/lang/String") (hlk : q_LK (q_own M) idx (q_nm M')) (hdp : Nat.ble (q_dp M' + 1) (q_dp M) = true) (hw : Nat.ble (q_sum st) 8 = true) (kk : q_WP M sh n ls (v :: st) σ1 Q) : q_WP M sh pc ls (a2 :: a1 :: .inr (.inr 1001) :: st) σ Q :=
  q_callT (av := [a1, a2]) hd hn hm hcl hlk (Nat.le_of_ble_eq_true hdp) rfl hw hct rfl (fun r σ' ⟨e, h⟩ => by subst e; subst h; exact kk)
end QS
/-- the place of a letter -/
def ixL (c : Int) : Nat → Int → Int
  | 0, _ => -1
  | n + 1, i => if q_let.getD i.toNat 0 = c then i else ixL c n (i + 1)
theorem ixL_bd (c : Int) : ∀ (n : Nat) (i : Int), 0 ≤ i → (ixL c n i = -1 ∨ (i ≤ ixL c n i ∧ ixL c n i < i + n)) := by
  intro n
  induction n with
  | zero => intro i h; exact Or.inl rfl
  | succ n ih =>
    intro i h
    rw [ixL]
    split
    · right
      omega
    · rcases ih (i + 1) (by omega) with h1 | h1
      · exact Or.inl h1
      · right
        omega
theorem shr0 {x : Int} (h : q_i32 x) : q_shr x 0 = x := by
  unfold q_shr
  have e : (Int32.ofInt 0 &&& 31) = 0 := by decide
  rw [e]
  have h0 := pk_shr (Int32.ofInt x) 0 0 (by decide)
  rw [h0, q_t32 h]
  exact Int.shiftRight_zero x
theorem i2c_id {x : Int} (h : 0 ≤ x ∧ x < 65536) : q_i2c x = x := by
  unfold q_i2c
  rw [pk_char]
  obtain ⟨n, rfl⟩ := Int.eq_ofNat_of_zero_le h.1
  have e : (Int32.ofInt (n : Int)) = nI n := rfl
  rw [e, pk_tn (by omega)]
  rw [nI_toInt (by omega)]
  omega

theorem q_mmaxI {M : q_M} {sh : q_H} {pc n : Nat} {ls : List (Option q_V)} {st : List q_V} {σ : q_S} {Q : Option q_V → q_S → Prop} {idx : Nat} {x y : Int} (hd : decode (q_cc M) pc = .ok (.invokestatic idx, 3)) (hn : pc + 3 = n) (hlk : Cond.methodLink (q_own M) idx yJ9_max_7cf53 ∈ q_words) (hdp : Nat.ble 1 (q_dp M) = true) (hw : Nat.ble (q_sum st + 13) (64 * q_dp M) = true) (kk : q_WP M sh n ls (.inl (if x < y then y else x) :: st) σ Q) : q_WP M sh pc ls (.inl y :: .inl x :: st) σ Q := by
  subst hn
  intro p l e s m args below meth c D cs ad H locs la Qf E L O
  have hc := q_hw E.1.2.2.2.2.1 vJ9_max_7cf53.1.1
  have hi := q_hw E.1.2.2.2.2.1 vJ9_max_7cf53.1.2.1
  have hs := q_hw E.1.2.2.2.2.1 vJ9_max_7cf53.2
  have hl := q_hw E.1.2.2.2.2.1 hlk
  refine va_mmax E.1.1 E.1.2.1 (by rw [E.1.2.2.1, L.1]) E.1.2.2.2.1 hl hs hi hc (Nat.le_of_ble_eq_true hdp) (by rw [q_sum_eq]; exact Nat.le_of_ble_eq_true hw) (Nat.le_refl 0) (Nat.le_refl 0) hd ?_
  have k' := kk p l e s m args below meth c D cs ad H locs la Qf E L ⟨(by have := O.1; have := O.2.1; split <;> assumption), O.2.2⟩
  have h1 := q_lt O.2.1 O.1
  have e0 : (if Int32.ofInt x < Int32.ofInt y then Int32.ofInt y else Int32.ofInt x) = Int32.ofInt (if x < y then y else x) := by
    by_cases h : x < y
    · rw [if_pos (h1.mpr h), if_pos h]
    · rw [if_neg (fun z => h (h1.mp z)), if_neg h]
  rw [e0]
  exact k'
