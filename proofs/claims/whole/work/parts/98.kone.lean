/-! constructors that call none -/
def shKX0l : List q_C := [.inl (0, [.inl 1, .inl 1, .inl 1, .inl 1])]
def shKX0 : q_H := (1, fun c => shKX0l.getD c.toNat (.inr (.inl (0, 0))))
def sgKX0 : q_S := fun c => if c = 0 then (fun x => 0) else fun _ => 0
set_option maxRecDepth 100000 in
theorem kX0 : k_Ct mX0_init 0 fsX0 shKX0 sgKX0 { frames := 1, cells := 0, slots := 0, locals := 64 } := by
  refine k_ct (by decide) rfl rfl rfl (by decide) ?_
  intro p l e s m args below meth c D cs h0 A la E hl hAe hA S
  have S : k_S A s.heap D s.heap [] [(h0, .inr (0, [.long (Int64.ofInt 0), .long (Int64.ofInt 0), .long (Int64.ofInt 0), .long (Int64.ofInt 0)]))] := S
  generalize hlc : ([] : List Loc) = locs at S ⊢
  refine lv_aload_n E.1 E.2.1 dX0_init_0 rfl (lv_at hl 0 rfl) ?_
  refine k_obj E ob_X0 ob_i ob_c hl.1 dX0_init_1 (by decide) (by decide) ?_
  refine W.widen (k := 0) (n := 0) (Nat.le_of_ble_eq_true rfl) (Nat.le_of_ble_eq_true rfl) ?_
  exact k_ret (ad := fun c => [h0].getD c.toNat 0) E hAe rfl S dX0_init_4
def shKX4l : List q_C := [.inl (4, [.inl 1, .inl 1, .inl 1])]
def shKX4 : q_H := (1, fun c => shKX4l.getD c.toNat (.inr (.inl (0, 0))))
def sgKX4 : q_S := fun c => if c = 0 then (fun x => if x = 2 then 1 else 0) else fun _ => 0
set_option maxRecDepth 100000 in
theorem kX4 : k_Ct mX4_init 4 fsX4 shKX4 sgKX4 { frames := 1, cells := 0, slots := 0, locals := 64 } := by
  refine k_ct (by decide) rfl rfl rfl (by decide) ?_
  intro p l e s m args below meth c D cs h0 A la E hl hAe hA S
  have S : k_S A s.heap D s.heap [] [(h0, .inr (4, [.long (Int64.ofInt 0), .long (Int64.ofInt 0), .long (Int64.ofInt 0)]))] := S
  generalize hlc : ([] : List Loc) = locs at S ⊢
  refine lv_aload_n E.1 E.2.1 dX4_init_0 rfl (lv_at hl 0 rfl) ?_
  refine k_obj E ob_X4 ob_i ob_c hl.1 dX4_init_1 (by decide) (by decide) ?_
  refine lv_aload_n E.1 E.2.1 dX4_init_4 rfl (lv_at hl 0 rfl) ?_
  refine lv_lconst (v := Int64.ofInt 1) E.1 E.2.1 dX4_init_5 (by decide) ?_
  refine k_put E gX4_7 rfl rfl (Nat.le_of_ble_eq_true rfl) dX4_init_6 S (fun H locs S => ?_)
  have S : k_S A s.heap D H locs [(h0, .inr (4, [.long (Int64.ofInt 0),.long (Int64.ofInt 0),.long (Int64.ofInt 1)]))] := S
  refine W.widen (k := 0) (n := 0) (Nat.le_of_ble_eq_true rfl) (Nat.le_of_ble_eq_true rfl) ?_
  exact k_ret (ad := fun c => [h0].getD c.toNat 0) E hAe rfl S dX4_init_9
def shKX5l : List q_C := [.inl (5, [.inr 1, .inl 0]), .inr (.inl (1, 24))]
def shKX5 : q_H := (2, fun c => shKX5l.getD c.toNat (.inr (.inl (0, 0))))
def sgKX5 : q_S := fun c => if c = 0 then (fun x => if x = 1 then -1 else 0) else fun _ => 0
set_option maxRecDepth 100000 in
theorem kX5 : k_Ct mX5_init 5 fsX5 shKX5 sgKX5 { frames := 1, cells := 1, slots := 24, locals := 64 } := by
  refine k_ct (by decide) rfl rfl rfl (by decide) ?_
  intro p l e s m args below meth c D cs h0 A la E hl hAe hA S
  have S : k_S A s.heap D s.heap [] [(h0, .inr (5, [.null, .int (Int32.ofInt 0)]))] := S
  generalize hlc : ([] : List Loc) = locs at S ⊢
  refine lv_aload_n E.1 E.2.1 dX5_init_0 rfl (lv_at hl 0 rfl) ?_
  refine k_obj E ob_X5 ob_i ob_c hl.1 dX5_init_1 (by decide) (by decide) ?_
  refine lv_aload_n E.1 E.2.1 dX5_init_4 rfl (lv_at hl 0 rfl) ?_
  refine lv_bipush (v := Int32.ofInt 24) E.1 E.2.1 dX5_init_5 (by decide) ?_
  refine k_newJ (N' := 24) E wA_long hA (by decide) (by decide) (by decide) (Nat.le_of_ble_eq_true rfl) (Nat.le_of_ble_eq_true rfl) dX5_init_7 S (fun q1 H S => ?_)
  have S : k_S A s.heap D H _ [(h0, .inr (5, [.null, .int (Int32.ofInt 0)])), (q1, k_z cs 1 24)] := S
  refine k_put E gX5_9 rfl rfl (Nat.le_of_ble_eq_true rfl) dX5_init_9 S (fun H locs S => ?_)
  have S : k_S A s.heap D H locs [(h0, .inr (5, [.ref q1,.int (Int32.ofInt 0)])), (q1, k_z cs 1 24)] := S
  refine lv_aload_n E.1 E.2.1 dX5_init_12 rfl (lv_at hl 0 rfl) ?_
  refine lv_iconst (v := Int32.ofInt (-1)) E.1 E.2.1 dX5_init_13 rfl ?_
  refine k_put E gX5_15 rfl rfl (Nat.le_of_ble_eq_true rfl) dX5_init_14 S (fun H locs S => ?_)
  have S : k_S A s.heap D H locs [(h0, .inr (5, [.ref q1,.int (Int32.ofInt (-1))])), (q1, k_z cs 1 24)] := S
  refine W.widen (k := 1) (n := 24) (Nat.le_of_ble_eq_true rfl) (Nat.le_of_ble_eq_true rfl) ?_
  exact k_ret (ad := fun c => [h0, q1].getD c.toNat 0) E hAe rfl S dX5_init_17
def shKX6l : List q_C := [.inl (6, [.inr 1, .inl 0, .inl 0, .inl 0, .inr 2]), .inr (.inl (2, 120)), .inr (.inl (0, 6))]
def shKX6 : q_H := (3, fun c => shKX6l.getD c.toNat (.inr (.inl (0, 0))))
def sgKX6 : q_S := fun c => if c = 0 then (fun x => 0) else fun _ => 0
set_option maxRecDepth 100000 in
theorem kX6 : k_Ct mX6_init 6 fsX6 shKX6 sgKX6 { frames := 1, cells := 2, slots := 126, locals := 64 } := by
  refine k_ct (by decide) rfl rfl rfl (by decide) ?_
  intro p l e s m args below meth c D cs h0 A la E hl hAe hA S
  have S : k_S A s.heap D s.heap [] [(h0, .inr (6, [.null, .int (Int32.ofInt 0), .int (Int32.ofInt 0), .int (Int32.ofInt 0), .null]))] := S
  generalize hlc : ([] : List Loc) = locs at S ⊢
  refine lv_aload_n E.1 E.2.1 dX6_init_0 rfl (lv_at hl 0 rfl) ?_
  refine k_obj E ob_X6 ob_i ob_c hl.1 dX6_init_1 (by decide) (by decide) ?_
  refine lv_aload_n E.1 E.2.1 dX6_init_4 rfl (lv_at hl 0 rfl) ?_
  refine lv_bipush (v := Int32.ofInt 120) E.1 E.2.1 dX6_init_5 (by decide) ?_
  refine k_newB (N' := 120) E wA_byte hA (by decide) (by decide) (by decide) (Nat.le_of_ble_eq_true rfl) (Nat.le_of_ble_eq_true rfl) dX6_init_7 S (fun q1 H S => ?_)
  have S : k_S A s.heap D H _ [(h0, .inr (6, [.null, .int (Int32.ofInt 0), .int (Int32.ofInt 0), .int (Int32.ofInt 0), .null])), (q1, k_z cs 2 120)] := S
  refine k_put E gX6_9 rfl rfl (Nat.le_of_ble_eq_true rfl) dX6_init_9 S (fun H locs S => ?_)
  have S : k_S A s.heap D H locs [(h0, .inr (6, [.ref q1,.int (Int32.ofInt 0),.int (Int32.ofInt 0),.int (Int32.ofInt 0),.null])), (q1, k_z cs 2 120)] := S
  refine lv_aload_n E.1 E.2.1 dX6_init_12 rfl (lv_at hl 0 rfl) ?_
  refine lv_iconst (v := Int32.ofInt 0) E.1 E.2.1 dX6_init_13 rfl ?_
  refine k_put E gX6_15 rfl rfl (Nat.le_of_ble_eq_true rfl) dX6_init_14 S (fun H locs S => ?_)
  have S : k_S A s.heap D H locs [(h0, .inr (6, [.ref q1,.int (Int32.ofInt 0),.int (Int32.ofInt 0),.int (Int32.ofInt 0),.null])), (q1, k_z cs 2 120)] := S
  refine lv_aload_n E.1 E.2.1 dX6_init_17 rfl (lv_at hl 0 rfl) ?_
  refine lv_iconst (v := Int32.ofInt 0) E.1 E.2.1 dX6_init_18 rfl ?_
  refine k_put E gX6_19 rfl rfl (Nat.le_of_ble_eq_true rfl) dX6_init_19 S (fun H locs S => ?_)
  have S : k_S A s.heap D H locs [(h0, .inr (6, [.ref q1,.int (Int32.ofInt 0),.int (Int32.ofInt 0),.int (Int32.ofInt 0),.null])), (q1, k_z cs 2 120)] := S
  refine lv_aload_n E.1 E.2.1 dX6_init_22 rfl (lv_at hl 0 rfl) ?_
  refine lv_iconst (v := Int32.ofInt 0) E.1 E.2.1 dX6_init_23 rfl ?_
  refine k_put E gX6_22 rfl rfl (Nat.le_of_ble_eq_true rfl) dX6_init_24 S (fun H locs S => ?_)
  have S : k_S A s.heap D H locs [(h0, .inr (6, [.ref q1,.int (Int32.ofInt 0),.int (Int32.ofInt 0),.int (Int32.ofInt 0),.null])), (q1, k_z cs 2 120)] := S
  refine lv_aload_n E.1 E.2.1 dX6_init_27 rfl (lv_at hl 0 rfl) ?_
  refine lv_bipush (v := Int32.ofInt 6) E.1 E.2.1 dX6_init_28 (by decide) ?_
  refine k_newI (N' := 6) E wA_int hA (by decide) (by decide) (by decide) (Nat.le_of_ble_eq_true rfl) (Nat.le_of_ble_eq_true rfl) dX6_init_30 S (fun q2 H S => ?_)
  have S : k_S A s.heap D H _ [(h0, .inr (6, [.ref q1, .int (Int32.ofInt 0), .int (Int32.ofInt 0), .int (Int32.ofInt 0), .null])), (q1, k_z cs 2 120), (q2, k_z cs 0 6)] := S
  refine k_put E gX6_25 rfl rfl (Nat.le_of_ble_eq_true rfl) dX6_init_32 S (fun H locs S => ?_)
  have S : k_S A s.heap D H locs [(h0, .inr (6, [.ref q1,.int (Int32.ofInt 0),.int (Int32.ofInt 0),.int (Int32.ofInt 0),.ref q2])), (q1, k_z cs 2 120), (q2, k_z cs 0 6)] := S
  refine W.widen (k := 2) (n := 126) (Nat.le_of_ble_eq_true rfl) (Nat.le_of_ble_eq_true rfl) ?_
  exact k_ret (ad := fun c => [h0, q1, q2].getD c.toNat 0) E hAe rfl S dX6_init_35
def shKX2l : List q_C := [.inl (2, [.inr 1, .inr 2, .inr 3, .inr 4, .inr 5, .inr 6, .inl 0, .inl 0, .inl 0]), .inr (.inl (0, 5)), .inr (.inl (0, 5)), .inr (.inl (0, 5)), .inr (.inl (0, 5)), .inr (.inl (0, 5)), .inr (.inl (0, 4))]
def shKX2 : q_H := (7, fun c => shKX2l.getD c.toNat (.inr (.inl (0, 0))))
def sgKX2 : q_S := fun c => if c = 0 then (fun x => 0) else fun _ => 0
set_option maxRecDepth 100000 in
theorem kX2 : k_Ct mX2_init 2 fsX2 shKX2 sgKX2 { frames := 1, cells := 6, slots := 29, locals := 64 } := by
  refine k_ct (by decide) rfl rfl rfl (by decide) ?_
  intro p l e s m args below meth c D cs h0 A la E hl hAe hA S
  have S : k_S A s.heap D s.heap [] [(h0, .inr (2, [.null, .null, .null, .null, .null, .null, .int (Int32.ofInt 0), .int (Int32.ofInt 0), .int (Int32.ofInt 0)]))] := S
  generalize hlc : ([] : List Loc) = locs at S ⊢
  refine lv_aload_n E.1 E.2.1 dX2_init_0 rfl (lv_at hl 0 rfl) ?_
  refine k_obj E ob_X2 ob_i ob_c hl.1 dX2_init_1 (by decide) (by decide) ?_
  refine lv_aload_n E.1 E.2.1 dX2_init_4 rfl (lv_at hl 0 rfl) ?_
  refine lv_iconst (v := Int32.ofInt 5) E.1 E.2.1 dX2_init_5 rfl ?_
  refine k_newI (N' := 5) E wA_int hA (by decide) (by decide) (by decide) (Nat.le_of_ble_eq_true rfl) (Nat.le_of_ble_eq_true rfl) dX2_init_6 S (fun q1 H S => ?_)
  have S : k_S A s.heap D H _ [(h0, .inr (2, [.null, .null, .null, .null, .null, .null, .int (Int32.ofInt 0), .int (Int32.ofInt 0), .int (Int32.ofInt 0)])), (q1, k_z cs 0 5)] := S
  refine k_put E gX2_11 rfl rfl (Nat.le_of_ble_eq_true rfl) dX2_init_8 S (fun H locs S => ?_)
  have S : k_S A s.heap D H locs [(h0, .inr (2, [.ref q1,.null,.null,.null,.null,.null,.int (Int32.ofInt 0),.int (Int32.ofInt 0),.int (Int32.ofInt 0)])), (q1, k_z cs 0 5)] := S
  refine lv_aload_n E.1 E.2.1 dX2_init_11 rfl (lv_at hl 0 rfl) ?_
  refine lv_iconst (v := Int32.ofInt 5) E.1 E.2.1 dX2_init_12 rfl ?_
  refine k_newI (N' := 5) E wA_int hA (by decide) (by decide) (by decide) (Nat.le_of_ble_eq_true rfl) (Nat.le_of_ble_eq_true rfl) dX2_init_13 S (fun q2 H S => ?_)
  have S : k_S A s.heap D H _ [(h0, .inr (2, [.ref q1, .null, .null, .null, .null, .null, .int (Int32.ofInt 0), .int (Int32.ofInt 0), .int (Int32.ofInt 0)])), (q1, k_z cs 0 5), (q2, k_z cs 0 5)] := S
  refine k_put E gX2_15 rfl rfl (Nat.le_of_ble_eq_true rfl) dX2_init_15 S (fun H locs S => ?_)
  have S : k_S A s.heap D H locs [(h0, .inr (2, [.ref q1,.ref q2,.null,.null,.null,.null,.int (Int32.ofInt 0),.int (Int32.ofInt 0),.int (Int32.ofInt 0)])), (q1, k_z cs 0 5), (q2, k_z cs 0 5)] := S
  refine lv_aload_n E.1 E.2.1 dX2_init_18 rfl (lv_at hl 0 rfl) ?_
  refine lv_iconst (v := Int32.ofInt 5) E.1 E.2.1 dX2_init_19 rfl ?_
  refine k_newI (N' := 5) E wA_int hA (by decide) (by decide) (by decide) (Nat.le_of_ble_eq_true rfl) (Nat.le_of_ble_eq_true rfl) dX2_init_20 S (fun q3 H S => ?_)
  have S : k_S A s.heap D H _ [(h0, .inr (2, [.ref q1, .ref q2, .null, .null, .null, .null, .int (Int32.ofInt 0), .int (Int32.ofInt 0), .int (Int32.ofInt 0)])), (q1, k_z cs 0 5), (q2, k_z cs 0 5), (q3, k_z cs 0 5)] := S
  refine k_put E gX2_18 rfl rfl (Nat.le_of_ble_eq_true rfl) dX2_init_22 S (fun H locs S => ?_)
  have S : k_S A s.heap D H locs [(h0, .inr (2, [.ref q1,.ref q2,.ref q3,.null,.null,.null,.int (Int32.ofInt 0),.int (Int32.ofInt 0),.int (Int32.ofInt 0)])), (q1, k_z cs 0 5), (q2, k_z cs 0 5), (q3, k_z cs 0 5)] := S
  refine lv_aload_n E.1 E.2.1 dX2_init_25 rfl (lv_at hl 0 rfl) ?_
  refine lv_iconst (v := Int32.ofInt 5) E.1 E.2.1 dX2_init_26 rfl ?_
  refine k_newI (N' := 5) E wA_int hA (by decide) (by decide) (by decide) (Nat.le_of_ble_eq_true rfl) (Nat.le_of_ble_eq_true rfl) dX2_init_27 S (fun q4 H S => ?_)
  have S : k_S A s.heap D H _ [(h0, .inr (2, [.ref q1, .ref q2, .ref q3, .null, .null, .null, .int (Int32.ofInt 0), .int (Int32.ofInt 0), .int (Int32.ofInt 0)])), (q1, k_z cs 0 5), (q2, k_z cs 0 5), (q3, k_z cs 0 5), (q4, k_z cs 0 5)] := S
  refine k_put E gX2_21 rfl rfl (Nat.le_of_ble_eq_true rfl) dX2_init_29 S (fun H locs S => ?_)
  have S : k_S A s.heap D H locs [(h0, .inr (2, [.ref q1,.ref q2,.ref q3,.ref q4,.null,.null,.int (Int32.ofInt 0),.int (Int32.ofInt 0),.int (Int32.ofInt 0)])), (q1, k_z cs 0 5), (q2, k_z cs 0 5), (q3, k_z cs 0 5), (q4, k_z cs 0 5)] := S
  refine lv_aload_n E.1 E.2.1 dX2_init_32 rfl (lv_at hl 0 rfl) ?_
  refine lv_iconst (v := Int32.ofInt 5) E.1 E.2.1 dX2_init_33 rfl ?_
  refine k_newI (N' := 5) E wA_int hA (by decide) (by decide) (by decide) (Nat.le_of_ble_eq_true rfl) (Nat.le_of_ble_eq_true rfl) dX2_init_34 S (fun q5 H S => ?_)
  have S : k_S A s.heap D H _ [(h0, .inr (2, [.ref q1, .ref q2, .ref q3, .ref q4, .null, .null, .int (Int32.ofInt 0), .int (Int32.ofInt 0), .int (Int32.ofInt 0)])), (q1, k_z cs 0 5), (q2, k_z cs 0 5), (q3, k_z cs 0 5), (q4, k_z cs 0 5), (q5, k_z cs 0 5)] := S
  refine k_put E gX2_24 rfl rfl (Nat.le_of_ble_eq_true rfl) dX2_init_36 S (fun H locs S => ?_)
  have S : k_S A s.heap D H locs [(h0, .inr (2, [.ref q1,.ref q2,.ref q3,.ref q4,.ref q5,.null,.int (Int32.ofInt 0),.int (Int32.ofInt 0),.int (Int32.ofInt 0)])), (q1, k_z cs 0 5), (q2, k_z cs 0 5), (q3, k_z cs 0 5), (q4, k_z cs 0 5), (q5, k_z cs 0 5)] := S
  refine lv_aload_n E.1 E.2.1 dX2_init_39 rfl (lv_at hl 0 rfl) ?_
  refine lv_iconst (v := Int32.ofInt 4) E.1 E.2.1 dX2_init_40 rfl ?_
  refine k_newI (N' := 4) E wA_int hA (by decide) (by decide) (by decide) (Nat.le_of_ble_eq_true rfl) (Nat.le_of_ble_eq_true rfl) dX2_init_41 S (fun q6 H S => ?_)
  have S : k_S A s.heap D H _ [(h0, .inr (2, [.ref q1, .ref q2, .ref q3, .ref q4, .ref q5, .null, .int (Int32.ofInt 0), .int (Int32.ofInt 0), .int (Int32.ofInt 0)])), (q1, k_z cs 0 5), (q2, k_z cs 0 5), (q3, k_z cs 0 5), (q4, k_z cs 0 5), (q5, k_z cs 0 5), (q6, k_z cs 0 4)] := S
  refine k_put E gX2_27 rfl rfl (Nat.le_of_ble_eq_true rfl) dX2_init_43 S (fun H locs S => ?_)
  have S : k_S A s.heap D H locs [(h0, .inr (2, [.ref q1,.ref q2,.ref q3,.ref q4,.ref q5,.ref q6,.int (Int32.ofInt 0),.int (Int32.ofInt 0),.int (Int32.ofInt 0)])), (q1, k_z cs 0 5), (q2, k_z cs 0 5), (q3, k_z cs 0 5), (q4, k_z cs 0 5), (q5, k_z cs 0 5), (q6, k_z cs 0 4)] := S
  refine W.widen (k := 6) (n := 29) (Nat.le_of_ble_eq_true rfl) (Nat.le_of_ble_eq_true rfl) ?_
  exact k_ret (ad := fun c => [h0, q1, q2, q3, q4, q5, q6].getD c.toNat 0) E hAe rfl S dX2_init_46
def shKX3l : List q_C := [.inl (3, [.inl 0, .inl 0, .inl 0, .inr 1, .inr 2, .inr 3, .inr 4, .inr 5, .inr 6]), .inr (.inl (0, 48)), .inr (.inl (0, 8)), .inr (.inl (0, 4)), .inr (.inl (0, 4)), .inr (.inl (0, 4)), .inr (.inl (0, 4))]
def shKX3 : q_H := (7, fun c => shKX3l.getD c.toNat (.inr (.inl (0, 0))))
def sgKX3 : q_S := fun c => if c = 0 then (fun x => if x = 0 then 3 else 0) else fun _ => 0
set_option maxRecDepth 100000 in
theorem kX3 : k_Ct mX3_init 3 fsX3 shKX3 sgKX3 { frames := 1, cells := 6, slots := 72, locals := 64 } := by
  refine k_ct (by decide) rfl rfl rfl (by decide) ?_
  intro p l e s m args below meth c D cs h0 A la E hl hAe hA S
  have S : k_S A s.heap D s.heap [] [(h0, .inr (3, [.int (Int32.ofInt 0), .int (Int32.ofInt 0), .int (Int32.ofInt 0), .null, .null, .null, .null, .null, .null]))] := S
  generalize hlc : ([] : List Loc) = locs at S ⊢
  refine lv_aload_n E.1 E.2.1 dX3_init_0 rfl (lv_at hl 0 rfl) ?_
  refine k_obj E ob_X3 ob_i ob_c hl.1 dX3_init_1 (by decide) (by decide) ?_
  refine lv_aload_n E.1 E.2.1 dX3_init_4 rfl (lv_at hl 0 rfl) ?_
  refine lv_iconst (v := Int32.ofInt 3) E.1 E.2.1 dX3_init_5 rfl ?_
  refine k_put E gX3_9 rfl rfl (Nat.le_of_ble_eq_true rfl) dX3_init_6 S (fun H locs S => ?_)
  have S : k_S A s.heap D H locs [(h0, .inr (3, [.int (Int32.ofInt 3),.int (Int32.ofInt 0),.int (Int32.ofInt 0),.null,.null,.null,.null,.null,.null]))] := S
  refine lv_aload_n E.1 E.2.1 dX3_init_9 rfl (lv_at hl 0 rfl) ?_
  refine lv_iconst (v := Int32.ofInt 0) E.1 E.2.1 dX3_init_10 rfl ?_
  refine k_put E gX3_15 rfl rfl (Nat.le_of_ble_eq_true rfl) dX3_init_11 S (fun H locs S => ?_)
  have S : k_S A s.heap D H locs [(h0, .inr (3, [.int (Int32.ofInt 3),.int (Int32.ofInt 0),.int (Int32.ofInt 0),.null,.null,.null,.null,.null,.null]))] := S
  refine lv_aload_n E.1 E.2.1 dX3_init_14 rfl (lv_at hl 0 rfl) ?_
  refine lv_iconst (v := Int32.ofInt 0) E.1 E.2.1 dX3_init_15 rfl ?_
  refine k_put E gX3_18 rfl rfl (Nat.le_of_ble_eq_true rfl) dX3_init_16 S (fun H locs S => ?_)
  have S : k_S A s.heap D H locs [(h0, .inr (3, [.int (Int32.ofInt 3),.int (Int32.ofInt 0),.int (Int32.ofInt 0),.null,.null,.null,.null,.null,.null]))] := S
  refine lv_aload_n E.1 E.2.1 dX3_init_19 rfl (lv_at hl 0 rfl) ?_
  refine lv_bipush (v := Int32.ofInt 48) E.1 E.2.1 dX3_init_20 (by decide) ?_
  refine k_newI (N' := 48) E wA_int hA (by decide) (by decide) (by decide) (Nat.le_of_ble_eq_true rfl) (Nat.le_of_ble_eq_true rfl) dX3_init_22 S (fun q1 H S => ?_)
  have S : k_S A s.heap D H _ [(h0, .inr (3, [.int (Int32.ofInt 3), .int (Int32.ofInt 0), .int (Int32.ofInt 0), .null, .null, .null, .null, .null, .null])), (q1, k_z cs 0 48)] := S
  refine k_put E gX3_21 rfl rfl (Nat.le_of_ble_eq_true rfl) dX3_init_24 S (fun H locs S => ?_)
  have S : k_S A s.heap D H locs [(h0, .inr (3, [.int (Int32.ofInt 3),.int (Int32.ofInt 0),.int (Int32.ofInt 0),.ref q1,.null,.null,.null,.null,.null])), (q1, k_z cs 0 48)] := S
  refine lv_aload_n E.1 E.2.1 dX3_init_27 rfl (lv_at hl 0 rfl) ?_
  refine lv_bipush (v := Int32.ofInt 8) E.1 E.2.1 dX3_init_28 (by decide) ?_
  refine k_newI (N' := 8) E wA_int hA (by decide) (by decide) (by decide) (Nat.le_of_ble_eq_true rfl) (Nat.le_of_ble_eq_true rfl) dX3_init_30 S (fun q2 H S => ?_)
  have S : k_S A s.heap D H _ [(h0, .inr (3, [.int (Int32.ofInt 3), .int (Int32.ofInt 0), .int (Int32.ofInt 0), .ref q1, .null, .null, .null, .null, .null])), (q1, k_z cs 0 48), (q2, k_z cs 0 8)] := S
  refine k_put E gX3_25 rfl rfl (Nat.le_of_ble_eq_true rfl) dX3_init_32 S (fun H locs S => ?_)
  have S : k_S A s.heap D H locs [(h0, .inr (3, [.int (Int32.ofInt 3),.int (Int32.ofInt 0),.int (Int32.ofInt 0),.ref q1,.ref q2,.null,.null,.null,.null])), (q1, k_z cs 0 48), (q2, k_z cs 0 8)] := S
  refine lv_aload_n E.1 E.2.1 dX3_init_35 rfl (lv_at hl 0 rfl) ?_
  refine lv_iconst (v := Int32.ofInt 4) E.1 E.2.1 dX3_init_36 rfl ?_
  refine k_newI (N' := 4) E wA_int hA (by decide) (by decide) (by decide) (Nat.le_of_ble_eq_true rfl) (Nat.le_of_ble_eq_true rfl) dX3_init_37 S (fun q3 H S => ?_)
  have S : k_S A s.heap D H _ [(h0, .inr (3, [.int (Int32.ofInt 3), .int (Int32.ofInt 0), .int (Int32.ofInt 0), .ref q1, .ref q2, .null, .null, .null, .null])), (q1, k_z cs 0 48), (q2, k_z cs 0 8), (q3, k_z cs 0 4)] := S
  refine k_put E gX3_28 rfl rfl (Nat.le_of_ble_eq_true rfl) dX3_init_39 S (fun H locs S => ?_)
  have S : k_S A s.heap D H locs [(h0, .inr (3, [.int (Int32.ofInt 3),.int (Int32.ofInt 0),.int (Int32.ofInt 0),.ref q1,.ref q2,.ref q3,.null,.null,.null])), (q1, k_z cs 0 48), (q2, k_z cs 0 8), (q3, k_z cs 0 4)] := S
  refine lv_aload_n E.1 E.2.1 dX3_init_42 rfl (lv_at hl 0 rfl) ?_
  refine lv_iconst (v := Int32.ofInt 4) E.1 E.2.1 dX3_init_43 rfl ?_
  refine k_newI (N' := 4) E wA_int hA (by decide) (by decide) (by decide) (Nat.le_of_ble_eq_true rfl) (Nat.le_of_ble_eq_true rfl) dX3_init_44 S (fun q4 H S => ?_)
  have S : k_S A s.heap D H _ [(h0, .inr (3, [.int (Int32.ofInt 3), .int (Int32.ofInt 0), .int (Int32.ofInt 0), .ref q1, .ref q2, .ref q3, .null, .null, .null])), (q1, k_z cs 0 48), (q2, k_z cs 0 8), (q3, k_z cs 0 4), (q4, k_z cs 0 4)] := S
  refine k_put E gX3_31 rfl rfl (Nat.le_of_ble_eq_true rfl) dX3_init_46 S (fun H locs S => ?_)
  have S : k_S A s.heap D H locs [(h0, .inr (3, [.int (Int32.ofInt 3),.int (Int32.ofInt 0),.int (Int32.ofInt 0),.ref q1,.ref q2,.ref q3,.ref q4,.null,.null])), (q1, k_z cs 0 48), (q2, k_z cs 0 8), (q3, k_z cs 0 4), (q4, k_z cs 0 4)] := S
  refine lv_aload_n E.1 E.2.1 dX3_init_49 rfl (lv_at hl 0 rfl) ?_
  refine lv_iconst (v := Int32.ofInt 4) E.1 E.2.1 dX3_init_50 rfl ?_
  refine k_newI (N' := 4) E wA_int hA (by decide) (by decide) (by decide) (Nat.le_of_ble_eq_true rfl) (Nat.le_of_ble_eq_true rfl) dX3_init_51 S (fun q5 H S => ?_)
  have S : k_S A s.heap D H _ [(h0, .inr (3, [.int (Int32.ofInt 3), .int (Int32.ofInt 0), .int (Int32.ofInt 0), .ref q1, .ref q2, .ref q3, .ref q4, .null, .null])), (q1, k_z cs 0 48), (q2, k_z cs 0 8), (q3, k_z cs 0 4), (q4, k_z cs 0 4), (q5, k_z cs 0 4)] := S
  refine k_put E gX3_34 rfl rfl (Nat.le_of_ble_eq_true rfl) dX3_init_53 S (fun H locs S => ?_)
  have S : k_S A s.heap D H locs [(h0, .inr (3, [.int (Int32.ofInt 3),.int (Int32.ofInt 0),.int (Int32.ofInt 0),.ref q1,.ref q2,.ref q3,.ref q4,.ref q5,.null])), (q1, k_z cs 0 48), (q2, k_z cs 0 8), (q3, k_z cs 0 4), (q4, k_z cs 0 4), (q5, k_z cs 0 4)] := S
  refine lv_aload_n E.1 E.2.1 dX3_init_56 rfl (lv_at hl 0 rfl) ?_
  refine lv_iconst (v := Int32.ofInt 4) E.1 E.2.1 dX3_init_57 rfl ?_
  refine k_newI (N' := 4) E wA_int hA (by decide) (by decide) (by decide) (Nat.le_of_ble_eq_true rfl) (Nat.le_of_ble_eq_true rfl) dX3_init_58 S (fun q6 H S => ?_)
  have S : k_S A s.heap D H _ [(h0, .inr (3, [.int (Int32.ofInt 3), .int (Int32.ofInt 0), .int (Int32.ofInt 0), .ref q1, .ref q2, .ref q3, .ref q4, .ref q5, .null])), (q1, k_z cs 0 48), (q2, k_z cs 0 8), (q3, k_z cs 0 4), (q4, k_z cs 0 4), (q5, k_z cs 0 4), (q6, k_z cs 0 4)] := S
  refine k_put E gX3_37 rfl rfl (Nat.le_of_ble_eq_true rfl) dX3_init_60 S (fun H locs S => ?_)
  have S : k_S A s.heap D H locs [(h0, .inr (3, [.int (Int32.ofInt 3),.int (Int32.ofInt 0),.int (Int32.ofInt 0),.ref q1,.ref q2,.ref q3,.ref q4,.ref q5,.ref q6])), (q1, k_z cs 0 48), (q2, k_z cs 0 8), (q3, k_z cs 0 4), (q4, k_z cs 0 4), (q5, k_z cs 0 4), (q6, k_z cs 0 4)] := S
  refine W.widen (k := 6) (n := 72) (Nat.le_of_ble_eq_true rfl) (Nat.le_of_ble_eq_true rfl) ?_
  exact k_ret (ad := fun c => [h0, q1, q2, q3, q4, q5, q6].getD c.toNat 0) E hAe rfl S dX3_init_63
