/-! constructors: rows -/
def k_i (cs : Nat → ClassId) (n : Nat) (f : Int → Int) : va_E := .inl (cs 0, n, .inl (fun j : Nat => Int32.ofInt (f (j : Int))))
section KB2
variable {M : q_M} {p : Program} {l : Launch} {e : Env} {R : Room} {s : State} {m : MethodId} {args : Array Value} {below : List Frame} {meth : Method} {c : Code} {D : va_G} {cs : Nat → ClassId} {H : Heap} {locs : List Loc} {cells slots pc : Nat} {Q : State → Prop} {la : Array Slot} {st : List Value} {A : Nat → Prop} {ws : va_W}
theorem k_pc {k2 c2 s2 : Nat} (h : pc = k2) (h2 : cells = c2) (h3 : slots = s2) (kk : W p l e R s m args below meth c H locs c2 s2 Q (F0 m k2 la st)) : W p l e R s m args below meth c H locs cells slots Q (F0 m pc la st) := by
  subst h
  subst h2
  subst h3
  exact kk
theorem k_aast {q0 qk t N i ci2 a v : Nat} {r : vw_C} {f : Nat → Option Nat} {vs : List Value} (E : k_E M p s m args meth c D cs) (S : k_S A s.heap D H locs ws) (ha : ws[q0]? = some (a, .inl (cs t, N, .inr (.inr (.inr (.inr f)))))) (ht : (q_tys cs)[t]? = some (cs t, .object r.1)) (hv : ws[qk]? = some (v, .inr (ci2, vs))) (hc : vwCl[ci2]? = some r) (hin : ¬ (Int32.ofInt i < 0 ∨ N ≤ (Int32.ofInt i).toNatClampNeg)) (hi : (Int32.ofInt i).toNatClampNeg = i) (hdg : decode (q_cc M) pc = .ok (.aastore, 1)) (kk : ∀ (H1 : Heap) (locs1 : List Loc), k_S A s.heap D H1 locs1 (ws.set q0 (a, .inl (cs t, N, .inr (.inr (.inr (.inr (fun j => if j = i then some v else f j))))))) → W p l e R s m args below meth c H1 locs1 cells slots Q (F0 m (pc + 1) la st)) : W p l e R s m args below meth c H locs cells slots Q (F0 m pc la (.ref v :: .int (Int32.ofInt i) :: .ref a :: st)) := by
  refine va_astq E.1 E.2.1 E.2.2.2.2.2.1 S.1 S.2.1 S.2.2 q0 t qk ci2 ha ht hv hc hin hdg (fun H1 locs1 hP hD hS => ?_)
  rw [hi] at hP hD
  exact kk H1 locs1 ⟨hP, hD, hS⟩
theorem k_iast {q0 N i a : Nat} {v : Int} {f : Int → Int} (E : k_E M p s m args meth c D cs) (S : k_S A s.heap D H locs ws) (ha : ws[q0]? = some (a, k_i cs N f)) (hin : ¬ (Int32.ofInt i < 0 ∨ N ≤ (Int32.ofInt i).toNatClampNeg)) (hi : (Int32.ofInt i).toNatClampNeg = i) (hdg : decode (q_cc M) pc = .ok (.iastore, 1)) (kk : ∀ (H1 : Heap) (locs1 : List Loc), k_S A s.heap D H1 locs1 (ws.set q0 (a, k_i cs N (ud f i v))) → W p l e R s m args below meth c H1 locs1 cells slots Q (F0 m (pc + 1) la st)) : W p l e R s m args below meth c H locs cells slots Q (F0 m pc la (.int (Int32.ofInt v) :: .int (Int32.ofInt i) :: .ref a :: st)) := by
  refine va_iast E.1 E.2.1 E.2.2.2.2.2.1 S.1 S.2.1 S.2.2 q0 0 ha rfl hin hdg (fun H1 locs1 hP hD hS => ?_)
  have e1 : upd (fun j : Nat => Int32.ofInt (f (j : Int))) (Int32.ofInt i).toNatClampNeg (Int32.ofInt v) = fun j : Nat => Int32.ofInt (ud f i v (j : Int)) := by
    funext j
    rw [hi]
    unfold upd ud
    by_cases h : j = i
    · rw [if_pos h, if_pos (by omega)]
    · rw [if_neg h, if_neg (by omega)]
  rw [e1] at hP hD
  exact kk H1 locs1 ⟨hP, hD, hS⟩
theorem k_rowc {H0 : Heap} {i a N : Nat} {cA : ClassId} {f g : Nat → Option Nat} (S : k_S A H0 D H locs ws) (ha : ws[i]? = some (a, .inl (cA, N, .inr (.inr (.inr (.inr f)))))) (h : ∀ j : Nat, j < N → f j = g j) : k_S A H0 D H locs (ws.set i (a, .inl (cA, N, .inr (.inr (.inr (.inr g)))))) := by
  refine ⟨fun k q hk => ?_, va_D.set S.2.1 ha, S.2.2⟩
  rw [List.getElem?_set] at hk
  by_cases e1 : i = k
  · rw [if_pos e1] at hk
    have hl : i < ws.length := (List.getElem?_eq_some_iff.mp ha).1
    rw [if_pos (by omega)] at hk
    cases hk
    have h1 : H[a]? = some (vp_cell cA (N, .inr (.inr (.inr (.inr f))))) := S.1 i _ ha
    show H[a]? = some (vp_cell cA (N, .inr (.inr (.inr (.inr g)))))
    rw [vp_cell_q] at h1 ⊢
    rw [h1, arrV_c (fun j hj => by rw [h j hj])]
  · rw [if_neg e1] at hk
    exact S.1 k q hk
/-- what came last goes behind the front -/
theorem k_fr {H0 : Heap} {F L N : va_W} (S : k_S A H0 D H locs ((F ++ L) ++ N)) : k_S A H0 D H locs (F ++ (N ++ L)) := by
  have h1 := va_P.swap S.1
  have h2 := va_D.swap S.2.1
  rw [List.append_assoc] at h1 h2
  exact ⟨h1, h2, S.2.2⟩
theorem k_perm {H0 : Heap} {ws' : va_W} (gl : List Nat) (S : k_S A H0 D H locs ws) (h : ws'.map some = gl.map (fun i => ws[i]?)) (hn : va_nd gl = true) : k_S A H0 D H locs ws' := by
  have hk : ∀ (k : Nat) (q : Nat × va_E), ws'[k]? = some q → ∃ a, gl[k]? = some a ∧ ws[a]? = some q := by
    intro k q hq
    have h1 : (ws'.map some)[k]? = some (some q) := by rw [List.getElem?_map, hq]; rfl
    rw [h, List.getElem?_map] at h1
    cases hg : gl[k]? with
    | none => rw [hg] at h1; cases h1
    | some a =>
      rw [hg] at h1
      exact ⟨a, rfl, Option.some.inj h1⟩
  refine ⟨fun k q hq => ?_, ⟨fun i j x y hi hj e => ?_, fun k q hq => ?_⟩, S.2.2⟩
  · obtain ⟨a, _, h2⟩ := hk k q hq
    exact S.1 a q h2
  · obtain ⟨a, h1, h2⟩ := hk i x hi
    obtain ⟨b, h3, h4⟩ := hk j y hj
    have h5 := S.2.1.1 a b x y h2 h4 e
    subst h5
    exact va_nd_inj gl hn i j a h1 h3
  · obtain ⟨a, _, h2⟩ := hk k q hq
    exact S.2.1.2 a q h2
end KB2

def shKX1l : List q_C := [.inl (1, [.inr 1, .inl 0, .inl 0]), .inr (.inr (5, 9, fun j => 2 + 7 * j)), .inl (3, [.inl 0, .inl 0, .inl 0, .inr 3, .inr 4, .inr 5, .inr 6, .inr 7, .inr 8]), .inr (.inl (0, 48)), .inr (.inl (0, 8)), .inr (.inl (0, 4)), .inr (.inl (0, 4)), .inr (.inl (0, 4)), .inr (.inl (0, 4)), .inl (3, [.inl 0, .inl 0, .inl 0, .inr 10, .inr 11, .inr 12, .inr 13, .inr 14, .inr 15]), .inr (.inl (0, 48)), .inr (.inl (0, 8)), .inr (.inl (0, 4)), .inr (.inl (0, 4)), .inr (.inl (0, 4)), .inr (.inl (0, 4)), .inl (3, [.inl 0, .inl 0, .inl 0, .inr 17, .inr 18, .inr 19, .inr 20, .inr 21, .inr 22]), .inr (.inl (0, 48)), .inr (.inl (0, 8)), .inr (.inl (0, 4)), .inr (.inl (0, 4)), .inr (.inl (0, 4)), .inr (.inl (0, 4)), .inl (3, [.inl 0, .inl 0, .inl 0, .inr 24, .inr 25, .inr 26, .inr 27, .inr 28, .inr 29]), .inr (.inl (0, 48)), .inr (.inl (0, 8)), .inr (.inl (0, 4)), .inr (.inl (0, 4)), .inr (.inl (0, 4)), .inr (.inl (0, 4)), .inl (3, [.inl 0, .inl 0, .inl 0, .inr 31, .inr 32, .inr 33, .inr 34, .inr 35, .inr 36]), .inr (.inl (0, 48)), .inr (.inl (0, 8)), .inr (.inl (0, 4)), .inr (.inl (0, 4)), .inr (.inl (0, 4)), .inr (.inl (0, 4)), .inl (3, [.inl 0, .inl 0, .inl 0, .inr 38, .inr 39, .inr 40, .inr 41, .inr 42, .inr 43]), .inr (.inl (0, 48)), .inr (.inl (0, 8)), .inr (.inl (0, 4)), .inr (.inl (0, 4)), .inr (.inl (0, 4)), .inr (.inl (0, 4)), .inl (3, [.inl 0, .inl 0, .inl 0, .inr 45, .inr 46, .inr 47, .inr 48, .inr 49, .inr 50]), .inr (.inl (0, 48)), .inr (.inl (0, 8)), .inr (.inl (0, 4)), .inr (.inl (0, 4)), .inr (.inl (0, 4)), .inr (.inl (0, 4)), .inl (3, [.inl 0, .inl 0, .inl 0, .inr 52, .inr 53, .inr 54, .inr 55, .inr 56, .inr 57]), .inr (.inl (0, 48)), .inr (.inl (0, 8)), .inr (.inl (0, 4)), .inr (.inl (0, 4)), .inr (.inl (0, 4)), .inr (.inl (0, 4)), .inl (3, [.inl 0, .inl 0, .inl 0, .inr 59, .inr 60, .inr 61, .inr 62, .inr 63, .inr 64]), .inr (.inl (0, 48)), .inr (.inl (0, 8)), .inr (.inl (0, 4)), .inr (.inl (0, 4)), .inr (.inl (0, 4)), .inr (.inl (0, 4))]
def shKX1 : q_H := (65, fun c => shKX1l.getD c.toNat (.inr (.inl (0, 0))))
def sgKX1 : q_S := fun c => if c < 2 then (fun _ => 0) else if (c - 2) % 7 = 0 then (fun x => if x = 0 then 3 else 0) else fun _ => 0
set_option maxHeartbeats 4000000 in
set_option maxRecDepth 100000 in
theorem kX1 : k_Ct mX1_init 1 fsX1 shKX1 sgKX1 { frames := 2, cells := 64, slots := 738, locals := 128 } := by
  refine k_ct (by decide) rfl rfl rfl (by decide) ?_
  intro p l e s m args below meth c D cs h0 A la E hl hAe hA S
  have S : k_S A s.heap D s.heap [] [(h0, .inr (1, [.null, .int (Int32.ofInt 0), .int (Int32.ofInt 0)]))] := S
  generalize hlc : ([] : List Loc) = locs at S ⊢
  refine lv_aload_n E.1 E.2.1 dX1_init_0 rfl (lv_at hl 0 rfl) ?_
  refine k_obj E ob_X1 ob_i ob_c hl.1 dX1_init_1 (by decide) (by decide) ?_
  refine lv_aload_n E.1 E.2.1 dX1_init_4 rfl (lv_at hl 0 rfl) ?_
  refine lv_bipush (v := Int32.ofInt 9) E.1 E.2.1 dX1_init_5 (by decide) ?_
  refine k_newR (N' := 9) (t := 5) E rX1_11 E.2.2.2.2.2.2.2.1.2.1 rfl hA (by decide) (by decide) (by decide) (Nat.le_of_ble_eq_true rfl) (Nat.le_of_ble_eq_true rfl) dX1_init_7 S (fun q1 H S => ?_)
  have S : k_S A s.heap D H _ ((h0, .inr (1, [.null, .int (Int32.ofInt 0), .int (Int32.ofInt 0)])) :: ([(q1, .inl (cs 5, 9, .inr (.inr (.inr (.inr (fun _ => none))))))])) := S
  refine k_put E gX1_13 rfl rfl (Nat.le_of_ble_eq_true rfl) dX1_init_10 S (fun H locs S => ?_)
  have S : k_S A s.heap D H locs ((h0, .inr (1, [.ref q1, .int (Int32.ofInt 0), .int (Int32.ofInt 0)])) :: ([(q1, .inl (cs 5, 9, .inr (.inr (.inr (.inr (fun _ => none))))))])) := S
  refine k_pc (k2 := 13) (c2 := 1) (s2 := 9) rfl rfl rfl ?_
  refine lv_aload_n E.1 E.2.1 dX1_init_13 rfl (lv_at hl 0 rfl) ?_
  refine lv_iconst (v := Int32.ofInt (0)) E.1 E.2.1 dX1_init_14 rfl ?_
  refine k_put E gX1_17 rfl rfl (Nat.le_of_ble_eq_true rfl) dX1_init_15 S (fun H locs S => ?_)
  have S : k_S A s.heap D H locs ((h0, .inr (1, [.ref q1, .int (Int32.ofInt 0), .int (Int32.ofInt 0)])) :: ([(q1, .inl (cs 5, 9, .inr (.inr (.inr (.inr (fun _ => none))))))])) := S
  refine k_pc (k2 := 18) (c2 := 1) (s2 := 9) rfl rfl rfl ?_
  refine lv_aload_n E.1 E.2.1 dX1_init_18 rfl (lv_at hl 0 rfl) ?_
  refine lv_iconst (v := Int32.ofInt (0)) E.1 E.2.1 dX1_init_19 rfl ?_
  refine k_put E gX1_21 rfl rfl (Nat.le_of_ble_eq_true rfl) dX1_init_20 S (fun H locs S => ?_)
  have S : k_S A s.heap D H locs ((h0, .inr (1, [.ref q1, .int (Int32.ofInt 0), .int (Int32.ofInt 0)])) :: ([(q1, .inl (cs 5, 9, .inr (.inr (.inr (.inr (fun _ => none))))))])) := S
  refine k_pc (k2 := 23) (c2 := 1) (s2 := 9) rfl rfl rfl ?_
  refine lv_iconst (v := Int32.ofInt (0)) E.1 E.2.1 dX1_init_23 rfl ?_
  refine lv_istore_n (lv' := [(1, .int (Int32.ofInt 0)), (0, .ref h0)]) E.1 E.2.1 dX1_init_24 rfl hl (Nat.le_of_ble_eq_true rfl) rfl (fun la hl => ?_)
  refine k_pc (k2 := 25) (c2 := 1) (s2 := 9) rfl rfl rfl ?_
  refine lv_iload_n E.1 E.2.1 dX1_init_25 rfl (lv_at hl 0 rfl) ?_
  refine lv_bipush (v := Int32.ofInt 9) E.1 E.2.1 dX1_init_26 (by decide) ?_
  refine lv_icmp_ge (tgt := 50) E.1 E.2.1 dX1_init_28 (by decide) (fun h => absurd h (by decide)) (fun _ => ?_)
  refine lv_aload_n E.1 E.2.1 dX1_init_31 rfl (lv_at hl 1 rfl) ?_
  refine k_get E gX1_13 rfl dX1_init_32 S ?_
  refine lv_iload_n E.1 E.2.1 dX1_init_35 rfl (lv_at hl 0 rfl) ?_
  refine k_nci E.1 E.2.1 E.2.2.1 E.2.2.2.1 E.2.2.2.2.1 (fun w hw => List.mem_cons_of_mem _ hw) E.2.2.2.2.2.1 E.2.2.2.2.2.2.1 E.2.2.2.2.2.2.2.1 S hA hl.1 nX1_11 kX3 vK_X3 rfl iK_X3 rfl lX1_24 ⟨Nat.le_of_ble_eq_true rfl, Nat.le_of_ble_eq_true rfl⟩ (Nat.le_of_ble_eq_true rfl) (Nat.le_of_ble_eq_true rfl) dX1_init_36 dX1_init_39 dX1_init_40 (Nat.le_of_ble_eq_true rfl) (by decide) (fun a2 H locs S => ?_)
  have S : k_S A s.heap D H locs ((h0, .inr (1, [.ref q1, .int (Int32.ofInt 0), .int (Int32.ofInt 0)])) :: ([(q1, .inl (cs 5, 9, .inr (.inr (.inr (.inr (fun _ => none))))))] ++ q_wld a2 cs shKX3 sgKX3)) := S
  refine k_aast (q0 := 1) (qk := 2) (t := 5) (N := 9) (i := 0) E S rfl rfl rfl rfl (by decide) (by decide) dX1_init_43 (fun H locs S => ?_)
  have S : k_S A s.heap D H locs ((h0, .inr (1, [.ref q1, .int (Int32.ofInt 0), .int (Int32.ofInt 0)])) :: ([(q1, .inl (cs 5, 9, .inr (.inr (.inr (.inr (fun j => if j = 0 then some (a2 0) else none))))))] ++ q_wld a2 cs shKX3 sgKX3)) := S
  refine k_pc (k2 := 44) (c2 := 8) (s2 := 90) rfl rfl rfl ?_
  refine lv_iinc (v := Int32.ofInt 1) (lv' := [(1, .int (Int32.ofInt 1)), (0, .ref h0)]) E.1 E.2.1 dX1_init_44 hl (k := 0) rfl (by decide) (Nat.le_of_ble_eq_true rfl) rfl (fun la hl => ?_)
  refine lv_goto (tgt := 25) E.1 E.2.1 dX1_init_47 (by decide) ?_
  refine lv_iload_n E.1 E.2.1 dX1_init_25 rfl (lv_at hl 0 rfl) ?_
  refine lv_bipush (v := Int32.ofInt 9) E.1 E.2.1 dX1_init_26 (by decide) ?_
  refine lv_icmp_ge (tgt := 50) E.1 E.2.1 dX1_init_28 (by decide) (fun h => absurd h (by decide)) (fun _ => ?_)
  refine lv_aload_n E.1 E.2.1 dX1_init_31 rfl (lv_at hl 1 rfl) ?_
  refine k_get E gX1_13 rfl dX1_init_32 S ?_
  refine lv_iload_n E.1 E.2.1 dX1_init_35 rfl (lv_at hl 0 rfl) ?_
  refine k_nci E.1 E.2.1 E.2.2.1 E.2.2.2.1 E.2.2.2.2.1 (fun w hw => List.mem_cons_of_mem _ hw) E.2.2.2.2.2.1 E.2.2.2.2.2.2.1 E.2.2.2.2.2.2.2.1 S hA hl.1 nX1_11 kX3 vK_X3 rfl iK_X3 rfl lX1_24 ⟨Nat.le_of_ble_eq_true rfl, Nat.le_of_ble_eq_true rfl⟩ (Nat.le_of_ble_eq_true rfl) (Nat.le_of_ble_eq_true rfl) dX1_init_36 dX1_init_39 dX1_init_40 (Nat.le_of_ble_eq_true rfl) (by decide) (fun a3 H locs S => ?_)
  have S : k_S A s.heap D H locs ((h0, .inr (1, [.ref q1, .int (Int32.ofInt 0), .int (Int32.ofInt 0)])) :: ([(q1, .inl (cs 5, 9, .inr (.inr (.inr (.inr (fun j => if j = 0 then some (a2 0) else none))))))] ++ q_wld a2 cs shKX3 sgKX3 ++ q_wld a3 cs shKX3 sgKX3)) := S
  refine k_aast (q0 := 1) (qk := 9) (t := 5) (N := 9) (i := 1) E S rfl rfl rfl rfl (by decide) (by decide) dX1_init_43 (fun H locs S => ?_)
  have S : k_S A s.heap D H locs ((h0, .inr (1, [.ref q1, .int (Int32.ofInt 0), .int (Int32.ofInt 0)])) :: ([(q1, .inl (cs 5, 9, .inr (.inr (.inr (.inr (fun j => if j = 1 then some (a3 0) else if j = 0 then some (a2 0) else none))))))] ++ q_wld a2 cs shKX3 sgKX3 ++ q_wld a3 cs shKX3 sgKX3)) := S
  refine k_pc (k2 := 44) (c2 := 15) (s2 := 171) rfl rfl rfl ?_
  refine lv_iinc (v := Int32.ofInt 2) (lv' := [(1, .int (Int32.ofInt 2)), (0, .ref h0)]) E.1 E.2.1 dX1_init_44 hl (k := 0) rfl (by decide) (Nat.le_of_ble_eq_true rfl) rfl (fun la hl => ?_)
  refine lv_goto (tgt := 25) E.1 E.2.1 dX1_init_47 (by decide) ?_
  refine lv_iload_n E.1 E.2.1 dX1_init_25 rfl (lv_at hl 0 rfl) ?_
  refine lv_bipush (v := Int32.ofInt 9) E.1 E.2.1 dX1_init_26 (by decide) ?_
  refine lv_icmp_ge (tgt := 50) E.1 E.2.1 dX1_init_28 (by decide) (fun h => absurd h (by decide)) (fun _ => ?_)
  refine lv_aload_n E.1 E.2.1 dX1_init_31 rfl (lv_at hl 1 rfl) ?_
  refine k_get E gX1_13 rfl dX1_init_32 S ?_
  refine lv_iload_n E.1 E.2.1 dX1_init_35 rfl (lv_at hl 0 rfl) ?_
  refine k_nci E.1 E.2.1 E.2.2.1 E.2.2.2.1 E.2.2.2.2.1 (fun w hw => List.mem_cons_of_mem _ hw) E.2.2.2.2.2.1 E.2.2.2.2.2.2.1 E.2.2.2.2.2.2.2.1 S hA hl.1 nX1_11 kX3 vK_X3 rfl iK_X3 rfl lX1_24 ⟨Nat.le_of_ble_eq_true rfl, Nat.le_of_ble_eq_true rfl⟩ (Nat.le_of_ble_eq_true rfl) (Nat.le_of_ble_eq_true rfl) dX1_init_36 dX1_init_39 dX1_init_40 (Nat.le_of_ble_eq_true rfl) (by decide) (fun a4 H locs S => ?_)
  have S : k_S A s.heap D H locs ((h0, .inr (1, [.ref q1, .int (Int32.ofInt 0), .int (Int32.ofInt 0)])) :: ([(q1, .inl (cs 5, 9, .inr (.inr (.inr (.inr (fun j => if j = 1 then some (a3 0) else if j = 0 then some (a2 0) else none))))))] ++ q_wld a2 cs shKX3 sgKX3 ++ q_wld a3 cs shKX3 sgKX3 ++ q_wld a4 cs shKX3 sgKX3)) := S
  refine k_aast (q0 := 1) (qk := 16) (t := 5) (N := 9) (i := 2) E S rfl rfl rfl rfl (by decide) (by decide) dX1_init_43 (fun H locs S => ?_)
  have S : k_S A s.heap D H locs ((h0, .inr (1, [.ref q1, .int (Int32.ofInt 0), .int (Int32.ofInt 0)])) :: ([(q1, .inl (cs 5, 9, .inr (.inr (.inr (.inr (fun j => if j = 2 then some (a4 0) else if j = 1 then some (a3 0) else if j = 0 then some (a2 0) else none))))))] ++ q_wld a2 cs shKX3 sgKX3 ++ q_wld a3 cs shKX3 sgKX3 ++ q_wld a4 cs shKX3 sgKX3)) := S
  refine k_pc (k2 := 44) (c2 := 22) (s2 := 252) rfl rfl rfl ?_
  refine lv_iinc (v := Int32.ofInt 3) (lv' := [(1, .int (Int32.ofInt 3)), (0, .ref h0)]) E.1 E.2.1 dX1_init_44 hl (k := 0) rfl (by decide) (Nat.le_of_ble_eq_true rfl) rfl (fun la hl => ?_)
  refine lv_goto (tgt := 25) E.1 E.2.1 dX1_init_47 (by decide) ?_
  refine lv_iload_n E.1 E.2.1 dX1_init_25 rfl (lv_at hl 0 rfl) ?_
  refine lv_bipush (v := Int32.ofInt 9) E.1 E.2.1 dX1_init_26 (by decide) ?_
  refine lv_icmp_ge (tgt := 50) E.1 E.2.1 dX1_init_28 (by decide) (fun h => absurd h (by decide)) (fun _ => ?_)
  refine lv_aload_n E.1 E.2.1 dX1_init_31 rfl (lv_at hl 1 rfl) ?_
  refine k_get E gX1_13 rfl dX1_init_32 S ?_
  refine lv_iload_n E.1 E.2.1 dX1_init_35 rfl (lv_at hl 0 rfl) ?_
  refine k_nci E.1 E.2.1 E.2.2.1 E.2.2.2.1 E.2.2.2.2.1 (fun w hw => List.mem_cons_of_mem _ hw) E.2.2.2.2.2.1 E.2.2.2.2.2.2.1 E.2.2.2.2.2.2.2.1 S hA hl.1 nX1_11 kX3 vK_X3 rfl iK_X3 rfl lX1_24 ⟨Nat.le_of_ble_eq_true rfl, Nat.le_of_ble_eq_true rfl⟩ (Nat.le_of_ble_eq_true rfl) (Nat.le_of_ble_eq_true rfl) dX1_init_36 dX1_init_39 dX1_init_40 (Nat.le_of_ble_eq_true rfl) (by decide) (fun a5 H locs S => ?_)
  have S : k_S A s.heap D H locs ((h0, .inr (1, [.ref q1, .int (Int32.ofInt 0), .int (Int32.ofInt 0)])) :: ([(q1, .inl (cs 5, 9, .inr (.inr (.inr (.inr (fun j => if j = 2 then some (a4 0) else if j = 1 then some (a3 0) else if j = 0 then some (a2 0) else none))))))] ++ q_wld a2 cs shKX3 sgKX3 ++ q_wld a3 cs shKX3 sgKX3 ++ q_wld a4 cs shKX3 sgKX3 ++ q_wld a5 cs shKX3 sgKX3)) := S
  refine k_aast (q0 := 1) (qk := 23) (t := 5) (N := 9) (i := 3) E S rfl rfl rfl rfl (by decide) (by decide) dX1_init_43 (fun H locs S => ?_)
  have S : k_S A s.heap D H locs ((h0, .inr (1, [.ref q1, .int (Int32.ofInt 0), .int (Int32.ofInt 0)])) :: ([(q1, .inl (cs 5, 9, .inr (.inr (.inr (.inr (fun j => if j = 3 then some (a5 0) else if j = 2 then some (a4 0) else if j = 1 then some (a3 0) else if j = 0 then some (a2 0) else none))))))] ++ q_wld a2 cs shKX3 sgKX3 ++ q_wld a3 cs shKX3 sgKX3 ++ q_wld a4 cs shKX3 sgKX3 ++ q_wld a5 cs shKX3 sgKX3)) := S
  refine k_pc (k2 := 44) (c2 := 29) (s2 := 333) rfl rfl rfl ?_
  refine lv_iinc (v := Int32.ofInt 4) (lv' := [(1, .int (Int32.ofInt 4)), (0, .ref h0)]) E.1 E.2.1 dX1_init_44 hl (k := 0) rfl (by decide) (Nat.le_of_ble_eq_true rfl) rfl (fun la hl => ?_)
  refine lv_goto (tgt := 25) E.1 E.2.1 dX1_init_47 (by decide) ?_
  refine lv_iload_n E.1 E.2.1 dX1_init_25 rfl (lv_at hl 0 rfl) ?_
  refine lv_bipush (v := Int32.ofInt 9) E.1 E.2.1 dX1_init_26 (by decide) ?_
  refine lv_icmp_ge (tgt := 50) E.1 E.2.1 dX1_init_28 (by decide) (fun h => absurd h (by decide)) (fun _ => ?_)
  refine lv_aload_n E.1 E.2.1 dX1_init_31 rfl (lv_at hl 1 rfl) ?_
  refine k_get E gX1_13 rfl dX1_init_32 S ?_
  refine lv_iload_n E.1 E.2.1 dX1_init_35 rfl (lv_at hl 0 rfl) ?_
  refine k_nci E.1 E.2.1 E.2.2.1 E.2.2.2.1 E.2.2.2.2.1 (fun w hw => List.mem_cons_of_mem _ hw) E.2.2.2.2.2.1 E.2.2.2.2.2.2.1 E.2.2.2.2.2.2.2.1 S hA hl.1 nX1_11 kX3 vK_X3 rfl iK_X3 rfl lX1_24 ⟨Nat.le_of_ble_eq_true rfl, Nat.le_of_ble_eq_true rfl⟩ (Nat.le_of_ble_eq_true rfl) (Nat.le_of_ble_eq_true rfl) dX1_init_36 dX1_init_39 dX1_init_40 (Nat.le_of_ble_eq_true rfl) (by decide) (fun a6 H locs S => ?_)
  have S : k_S A s.heap D H locs ((h0, .inr (1, [.ref q1, .int (Int32.ofInt 0), .int (Int32.ofInt 0)])) :: ([(q1, .inl (cs 5, 9, .inr (.inr (.inr (.inr (fun j => if j = 3 then some (a5 0) else if j = 2 then some (a4 0) else if j = 1 then some (a3 0) else if j = 0 then some (a2 0) else none))))))] ++ q_wld a2 cs shKX3 sgKX3 ++ q_wld a3 cs shKX3 sgKX3 ++ q_wld a4 cs shKX3 sgKX3 ++ q_wld a5 cs shKX3 sgKX3 ++ q_wld a6 cs shKX3 sgKX3)) := S
  refine k_aast (q0 := 1) (qk := 30) (t := 5) (N := 9) (i := 4) E S rfl rfl rfl rfl (by decide) (by decide) dX1_init_43 (fun H locs S => ?_)
  have S : k_S A s.heap D H locs ((h0, .inr (1, [.ref q1, .int (Int32.ofInt 0), .int (Int32.ofInt 0)])) :: ([(q1, .inl (cs 5, 9, .inr (.inr (.inr (.inr (fun j => if j = 4 then some (a6 0) else if j = 3 then some (a5 0) else if j = 2 then some (a4 0) else if j = 1 then some (a3 0) else if j = 0 then some (a2 0) else none))))))] ++ q_wld a2 cs shKX3 sgKX3 ++ q_wld a3 cs shKX3 sgKX3 ++ q_wld a4 cs shKX3 sgKX3 ++ q_wld a5 cs shKX3 sgKX3 ++ q_wld a6 cs shKX3 sgKX3)) := S
  refine k_pc (k2 := 44) (c2 := 36) (s2 := 414) rfl rfl rfl ?_
  refine lv_iinc (v := Int32.ofInt 5) (lv' := [(1, .int (Int32.ofInt 5)), (0, .ref h0)]) E.1 E.2.1 dX1_init_44 hl (k := 0) rfl (by decide) (Nat.le_of_ble_eq_true rfl) rfl (fun la hl => ?_)
  refine lv_goto (tgt := 25) E.1 E.2.1 dX1_init_47 (by decide) ?_
  refine lv_iload_n E.1 E.2.1 dX1_init_25 rfl (lv_at hl 0 rfl) ?_
  refine lv_bipush (v := Int32.ofInt 9) E.1 E.2.1 dX1_init_26 (by decide) ?_
  refine lv_icmp_ge (tgt := 50) E.1 E.2.1 dX1_init_28 (by decide) (fun h => absurd h (by decide)) (fun _ => ?_)
  refine lv_aload_n E.1 E.2.1 dX1_init_31 rfl (lv_at hl 1 rfl) ?_
  refine k_get E gX1_13 rfl dX1_init_32 S ?_
  refine lv_iload_n E.1 E.2.1 dX1_init_35 rfl (lv_at hl 0 rfl) ?_
  refine k_nci E.1 E.2.1 E.2.2.1 E.2.2.2.1 E.2.2.2.2.1 (fun w hw => List.mem_cons_of_mem _ hw) E.2.2.2.2.2.1 E.2.2.2.2.2.2.1 E.2.2.2.2.2.2.2.1 S hA hl.1 nX1_11 kX3 vK_X3 rfl iK_X3 rfl lX1_24 ⟨Nat.le_of_ble_eq_true rfl, Nat.le_of_ble_eq_true rfl⟩ (Nat.le_of_ble_eq_true rfl) (Nat.le_of_ble_eq_true rfl) dX1_init_36 dX1_init_39 dX1_init_40 (Nat.le_of_ble_eq_true rfl) (by decide) (fun a7 H locs S => ?_)
  have S : k_S A s.heap D H locs ((h0, .inr (1, [.ref q1, .int (Int32.ofInt 0), .int (Int32.ofInt 0)])) :: ([(q1, .inl (cs 5, 9, .inr (.inr (.inr (.inr (fun j => if j = 4 then some (a6 0) else if j = 3 then some (a5 0) else if j = 2 then some (a4 0) else if j = 1 then some (a3 0) else if j = 0 then some (a2 0) else none))))))] ++ q_wld a2 cs shKX3 sgKX3 ++ q_wld a3 cs shKX3 sgKX3 ++ q_wld a4 cs shKX3 sgKX3 ++ q_wld a5 cs shKX3 sgKX3 ++ q_wld a6 cs shKX3 sgKX3 ++ q_wld a7 cs shKX3 sgKX3)) := S
  refine k_aast (q0 := 1) (qk := 37) (t := 5) (N := 9) (i := 5) E S rfl rfl rfl rfl (by decide) (by decide) dX1_init_43 (fun H locs S => ?_)
  have S : k_S A s.heap D H locs ((h0, .inr (1, [.ref q1, .int (Int32.ofInt 0), .int (Int32.ofInt 0)])) :: ([(q1, .inl (cs 5, 9, .inr (.inr (.inr (.inr (fun j => if j = 5 then some (a7 0) else if j = 4 then some (a6 0) else if j = 3 then some (a5 0) else if j = 2 then some (a4 0) else if j = 1 then some (a3 0) else if j = 0 then some (a2 0) else none))))))] ++ q_wld a2 cs shKX3 sgKX3 ++ q_wld a3 cs shKX3 sgKX3 ++ q_wld a4 cs shKX3 sgKX3 ++ q_wld a5 cs shKX3 sgKX3 ++ q_wld a6 cs shKX3 sgKX3 ++ q_wld a7 cs shKX3 sgKX3)) := S
  refine k_pc (k2 := 44) (c2 := 43) (s2 := 495) rfl rfl rfl ?_
  refine lv_iinc (v := Int32.ofInt 6) (lv' := [(1, .int (Int32.ofInt 6)), (0, .ref h0)]) E.1 E.2.1 dX1_init_44 hl (k := 0) rfl (by decide) (Nat.le_of_ble_eq_true rfl) rfl (fun la hl => ?_)
  refine lv_goto (tgt := 25) E.1 E.2.1 dX1_init_47 (by decide) ?_
  refine lv_iload_n E.1 E.2.1 dX1_init_25 rfl (lv_at hl 0 rfl) ?_
  refine lv_bipush (v := Int32.ofInt 9) E.1 E.2.1 dX1_init_26 (by decide) ?_
  refine lv_icmp_ge (tgt := 50) E.1 E.2.1 dX1_init_28 (by decide) (fun h => absurd h (by decide)) (fun _ => ?_)
  refine lv_aload_n E.1 E.2.1 dX1_init_31 rfl (lv_at hl 1 rfl) ?_
  refine k_get E gX1_13 rfl dX1_init_32 S ?_
  refine lv_iload_n E.1 E.2.1 dX1_init_35 rfl (lv_at hl 0 rfl) ?_
  refine k_nci E.1 E.2.1 E.2.2.1 E.2.2.2.1 E.2.2.2.2.1 (fun w hw => List.mem_cons_of_mem _ hw) E.2.2.2.2.2.1 E.2.2.2.2.2.2.1 E.2.2.2.2.2.2.2.1 S hA hl.1 nX1_11 kX3 vK_X3 rfl iK_X3 rfl lX1_24 ⟨Nat.le_of_ble_eq_true rfl, Nat.le_of_ble_eq_true rfl⟩ (Nat.le_of_ble_eq_true rfl) (Nat.le_of_ble_eq_true rfl) dX1_init_36 dX1_init_39 dX1_init_40 (Nat.le_of_ble_eq_true rfl) (by decide) (fun a8 H locs S => ?_)
  have S : k_S A s.heap D H locs ((h0, .inr (1, [.ref q1, .int (Int32.ofInt 0), .int (Int32.ofInt 0)])) :: ([(q1, .inl (cs 5, 9, .inr (.inr (.inr (.inr (fun j => if j = 5 then some (a7 0) else if j = 4 then some (a6 0) else if j = 3 then some (a5 0) else if j = 2 then some (a4 0) else if j = 1 then some (a3 0) else if j = 0 then some (a2 0) else none))))))] ++ q_wld a2 cs shKX3 sgKX3 ++ q_wld a3 cs shKX3 sgKX3 ++ q_wld a4 cs shKX3 sgKX3 ++ q_wld a5 cs shKX3 sgKX3 ++ q_wld a6 cs shKX3 sgKX3 ++ q_wld a7 cs shKX3 sgKX3 ++ q_wld a8 cs shKX3 sgKX3)) := S
  refine k_aast (q0 := 1) (qk := 44) (t := 5) (N := 9) (i := 6) E S rfl rfl rfl rfl (by decide) (by decide) dX1_init_43 (fun H locs S => ?_)
  have S : k_S A s.heap D H locs ((h0, .inr (1, [.ref q1, .int (Int32.ofInt 0), .int (Int32.ofInt 0)])) :: ([(q1, .inl (cs 5, 9, .inr (.inr (.inr (.inr (fun j => if j = 6 then some (a8 0) else if j = 5 then some (a7 0) else if j = 4 then some (a6 0) else if j = 3 then some (a5 0) else if j = 2 then some (a4 0) else if j = 1 then some (a3 0) else if j = 0 then some (a2 0) else none))))))] ++ q_wld a2 cs shKX3 sgKX3 ++ q_wld a3 cs shKX3 sgKX3 ++ q_wld a4 cs shKX3 sgKX3 ++ q_wld a5 cs shKX3 sgKX3 ++ q_wld a6 cs shKX3 sgKX3 ++ q_wld a7 cs shKX3 sgKX3 ++ q_wld a8 cs shKX3 sgKX3)) := S
  refine k_pc (k2 := 44) (c2 := 50) (s2 := 576) rfl rfl rfl ?_
  refine lv_iinc (v := Int32.ofInt 7) (lv' := [(1, .int (Int32.ofInt 7)), (0, .ref h0)]) E.1 E.2.1 dX1_init_44 hl (k := 0) rfl (by decide) (Nat.le_of_ble_eq_true rfl) rfl (fun la hl => ?_)
  refine lv_goto (tgt := 25) E.1 E.2.1 dX1_init_47 (by decide) ?_
  refine lv_iload_n E.1 E.2.1 dX1_init_25 rfl (lv_at hl 0 rfl) ?_
  refine lv_bipush (v := Int32.ofInt 9) E.1 E.2.1 dX1_init_26 (by decide) ?_
  refine lv_icmp_ge (tgt := 50) E.1 E.2.1 dX1_init_28 (by decide) (fun h => absurd h (by decide)) (fun _ => ?_)
  refine lv_aload_n E.1 E.2.1 dX1_init_31 rfl (lv_at hl 1 rfl) ?_
  refine k_get E gX1_13 rfl dX1_init_32 S ?_
  refine lv_iload_n E.1 E.2.1 dX1_init_35 rfl (lv_at hl 0 rfl) ?_
  refine k_nci E.1 E.2.1 E.2.2.1 E.2.2.2.1 E.2.2.2.2.1 (fun w hw => List.mem_cons_of_mem _ hw) E.2.2.2.2.2.1 E.2.2.2.2.2.2.1 E.2.2.2.2.2.2.2.1 S hA hl.1 nX1_11 kX3 vK_X3 rfl iK_X3 rfl lX1_24 ⟨Nat.le_of_ble_eq_true rfl, Nat.le_of_ble_eq_true rfl⟩ (Nat.le_of_ble_eq_true rfl) (Nat.le_of_ble_eq_true rfl) dX1_init_36 dX1_init_39 dX1_init_40 (Nat.le_of_ble_eq_true rfl) (by decide) (fun a9 H locs S => ?_)
  have S : k_S A s.heap D H locs ((h0, .inr (1, [.ref q1, .int (Int32.ofInt 0), .int (Int32.ofInt 0)])) :: ([(q1, .inl (cs 5, 9, .inr (.inr (.inr (.inr (fun j => if j = 6 then some (a8 0) else if j = 5 then some (a7 0) else if j = 4 then some (a6 0) else if j = 3 then some (a5 0) else if j = 2 then some (a4 0) else if j = 1 then some (a3 0) else if j = 0 then some (a2 0) else none))))))] ++ q_wld a2 cs shKX3 sgKX3 ++ q_wld a3 cs shKX3 sgKX3 ++ q_wld a4 cs shKX3 sgKX3 ++ q_wld a5 cs shKX3 sgKX3 ++ q_wld a6 cs shKX3 sgKX3 ++ q_wld a7 cs shKX3 sgKX3 ++ q_wld a8 cs shKX3 sgKX3 ++ q_wld a9 cs shKX3 sgKX3)) := S
  refine k_aast (q0 := 1) (qk := 51) (t := 5) (N := 9) (i := 7) E S rfl rfl rfl rfl (by decide) (by decide) dX1_init_43 (fun H locs S => ?_)
  have S : k_S A s.heap D H locs ((h0, .inr (1, [.ref q1, .int (Int32.ofInt 0), .int (Int32.ofInt 0)])) :: ([(q1, .inl (cs 5, 9, .inr (.inr (.inr (.inr (fun j => if j = 7 then some (a9 0) else if j = 6 then some (a8 0) else if j = 5 then some (a7 0) else if j = 4 then some (a6 0) else if j = 3 then some (a5 0) else if j = 2 then some (a4 0) else if j = 1 then some (a3 0) else if j = 0 then some (a2 0) else none))))))] ++ q_wld a2 cs shKX3 sgKX3 ++ q_wld a3 cs shKX3 sgKX3 ++ q_wld a4 cs shKX3 sgKX3 ++ q_wld a5 cs shKX3 sgKX3 ++ q_wld a6 cs shKX3 sgKX3 ++ q_wld a7 cs shKX3 sgKX3 ++ q_wld a8 cs shKX3 sgKX3 ++ q_wld a9 cs shKX3 sgKX3)) := S
  refine k_pc (k2 := 44) (c2 := 57) (s2 := 657) rfl rfl rfl ?_
  refine lv_iinc (v := Int32.ofInt 8) (lv' := [(1, .int (Int32.ofInt 8)), (0, .ref h0)]) E.1 E.2.1 dX1_init_44 hl (k := 0) rfl (by decide) (Nat.le_of_ble_eq_true rfl) rfl (fun la hl => ?_)
  refine lv_goto (tgt := 25) E.1 E.2.1 dX1_init_47 (by decide) ?_
  refine lv_iload_n E.1 E.2.1 dX1_init_25 rfl (lv_at hl 0 rfl) ?_
  refine lv_bipush (v := Int32.ofInt 9) E.1 E.2.1 dX1_init_26 (by decide) ?_
  refine lv_icmp_ge (tgt := 50) E.1 E.2.1 dX1_init_28 (by decide) (fun h => absurd h (by decide)) (fun _ => ?_)
  refine lv_aload_n E.1 E.2.1 dX1_init_31 rfl (lv_at hl 1 rfl) ?_
  refine k_get E gX1_13 rfl dX1_init_32 S ?_
  refine lv_iload_n E.1 E.2.1 dX1_init_35 rfl (lv_at hl 0 rfl) ?_
  refine k_nci E.1 E.2.1 E.2.2.1 E.2.2.2.1 E.2.2.2.2.1 (fun w hw => List.mem_cons_of_mem _ hw) E.2.2.2.2.2.1 E.2.2.2.2.2.2.1 E.2.2.2.2.2.2.2.1 S hA hl.1 nX1_11 kX3 vK_X3 rfl iK_X3 rfl lX1_24 ⟨Nat.le_of_ble_eq_true rfl, Nat.le_of_ble_eq_true rfl⟩ (Nat.le_of_ble_eq_true rfl) (Nat.le_of_ble_eq_true rfl) dX1_init_36 dX1_init_39 dX1_init_40 (Nat.le_of_ble_eq_true rfl) (by decide) (fun a10 H locs S => ?_)
  have S : k_S A s.heap D H locs ((h0, .inr (1, [.ref q1, .int (Int32.ofInt 0), .int (Int32.ofInt 0)])) :: ([(q1, .inl (cs 5, 9, .inr (.inr (.inr (.inr (fun j => if j = 7 then some (a9 0) else if j = 6 then some (a8 0) else if j = 5 then some (a7 0) else if j = 4 then some (a6 0) else if j = 3 then some (a5 0) else if j = 2 then some (a4 0) else if j = 1 then some (a3 0) else if j = 0 then some (a2 0) else none))))))] ++ q_wld a2 cs shKX3 sgKX3 ++ q_wld a3 cs shKX3 sgKX3 ++ q_wld a4 cs shKX3 sgKX3 ++ q_wld a5 cs shKX3 sgKX3 ++ q_wld a6 cs shKX3 sgKX3 ++ q_wld a7 cs shKX3 sgKX3 ++ q_wld a8 cs shKX3 sgKX3 ++ q_wld a9 cs shKX3 sgKX3 ++ q_wld a10 cs shKX3 sgKX3)) := S
  refine k_aast (q0 := 1) (qk := 58) (t := 5) (N := 9) (i := 8) E S rfl rfl rfl rfl (by decide) (by decide) dX1_init_43 (fun H locs S => ?_)
  have S : k_S A s.heap D H locs ((h0, .inr (1, [.ref q1, .int (Int32.ofInt 0), .int (Int32.ofInt 0)])) :: ([(q1, .inl (cs 5, 9, .inr (.inr (.inr (.inr (fun j => if j = 8 then some (a10 0) else if j = 7 then some (a9 0) else if j = 6 then some (a8 0) else if j = 5 then some (a7 0) else if j = 4 then some (a6 0) else if j = 3 then some (a5 0) else if j = 2 then some (a4 0) else if j = 1 then some (a3 0) else if j = 0 then some (a2 0) else none))))))] ++ q_wld a2 cs shKX3 sgKX3 ++ q_wld a3 cs shKX3 sgKX3 ++ q_wld a4 cs shKX3 sgKX3 ++ q_wld a5 cs shKX3 sgKX3 ++ q_wld a6 cs shKX3 sgKX3 ++ q_wld a7 cs shKX3 sgKX3 ++ q_wld a8 cs shKX3 sgKX3 ++ q_wld a9 cs shKX3 sgKX3 ++ q_wld a10 cs shKX3 sgKX3)) := S
  refine k_pc (k2 := 44) (c2 := 64) (s2 := 738) rfl rfl rfl ?_
  refine lv_iinc (v := Int32.ofInt 9) (lv' := [(1, .int (Int32.ofInt 9)), (0, .ref h0)]) E.1 E.2.1 dX1_init_44 hl (k := 0) rfl (by decide) (Nat.le_of_ble_eq_true rfl) rfl (fun la hl => ?_)
  refine lv_goto (tgt := 25) E.1 E.2.1 dX1_init_47 (by decide) ?_
  refine lv_iload_n E.1 E.2.1 dX1_init_25 rfl (lv_at hl 0 rfl) ?_
  refine lv_bipush (v := Int32.ofInt 9) E.1 E.2.1 dX1_init_26 (by decide) ?_
  refine lv_icmp_ge (tgt := 50) E.1 E.2.1 dX1_init_28 (by decide) (fun _ => ?_) (fun h => absurd (by decide) h)
  obtain ⟨ad, had⟩ : ∃ ad : Int → Nat, ad = (fun c => [h0, q1, a2 0, a2 1, a2 2, a2 3, a2 4, a2 5, a2 6, a3 0, a3 1, a3 2, a3 3, a3 4, a3 5, a3 6, a4 0, a4 1, a4 2, a4 3, a4 4, a4 5, a4 6, a5 0, a5 1, a5 2, a5 3, a5 4, a5 5, a5 6, a6 0, a6 1, a6 2, a6 3, a6 4, a6 5, a6 6, a7 0, a7 1, a7 2, a7 3, a7 4, a7 5, a7 6, a8 0, a8 1, a8 2, a8 3, a8 4, a8 5, a8 6, a9 0, a9 1, a9 2, a9 3, a9 4, a9 5, a9 6, a10 0, a10 1, a10 2, a10 3, a10 4, a10 5, a10 6].getD c.toNat 0) := ⟨_, rfl⟩
  have S := k_rowc (i := 1) (g := fun j => some (ad (2 + 7 * (j : Int)))) S rfl (fun j hj => by
    rw [had]
    rcases (show j = 0 ∨ j = 1 ∨ j = 2 ∨ j = 3 ∨ j = 4 ∨ j = 5 ∨ j = 6 ∨ j = 7 ∨ j = 8 by omega) with rfl | rfl | rfl | rfl | rfl | rfl | rfl | rfl | rfl <;> rfl)
  refine W.widen (k := 64) (n := 738) (Nat.le_of_ble_eq_true rfl) (Nat.le_of_ble_eq_true rfl) ?_
  subst had
  exact k_ret (ad := fun c => [h0, q1, a2 0, a2 1, a2 2, a2 3, a2 4, a2 5, a2 6, a3 0, a3 1, a3 2, a3 3, a3 4, a3 5, a3 6, a4 0, a4 1, a4 2, a4 3, a4 4, a4 5, a4 6, a5 0, a5 1, a5 2, a5 3, a5 4, a5 5, a5 6, a6 0, a6 1, a6 2, a6 3, a6 4, a6 5, a6 6, a7 0, a7 1, a7 2, a7 3, a7 4, a7 5, a7 6, a8 0, a8 1, a8 2, a8 3, a8 4, a8 5, a8 6, a9 0, a9 1, a9 2, a9 3, a9 4, a9 5, a9 6, a10 0, a10 1, a10 2, a10 3, a10 4, a10 5, a10 6].getD c.toNat 0) E hAe rfl S dX1_init_50
