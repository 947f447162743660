/-! what is given at the start: the tables, the constants -/
theorem l_tabs {s : State} {b : Nat} (hts : ∀ w ∈ lw_tbl, w.before #[Value.ref b] s = true) : ∃ (D : va_G) (cs : Nat → ClassId), va_K D vwCl (q_tys cs) s ∧ q_N s ∧ k_O s := by
  obtain ⟨c0, i0, hk0⟩ := u_known (C := RX0) (T := TX0) (N := 4) (n := 4) hts (fun w hw => (List.mem_filter.mp (iw_X0 w hw)).1) (hts _ (List.mem_of_getElem? (i := 292) (by decide +kernel)))
  obtain ⟨c1, i1, hk1⟩ := u_known (C := RX1) (T := TX1) (N := 3) (n := 3) hts (fun w hw => (List.mem_filter.mp (iw_X1 w hw)).1) (hts _ (List.mem_of_getElem? (i := 188) (by decide +kernel)))
  obtain ⟨c2, i2, hk2⟩ := u_known (C := RX2) (T := TX2) (N := 9) (n := 9) hts (fun w hw => (List.mem_filter.mp (iw_X2 w hw)).1) (hts _ (List.mem_of_getElem? (i := 226) (by decide +kernel)))
  obtain ⟨c3, i3, hk3⟩ := u_known (C := RX3) (T := TX3) (N := 9) (n := 9) hts (fun w hw => (List.mem_filter.mp (iw_X3 w hw)).1) (hts _ (List.mem_of_getElem? (i := 144) (by decide +kernel)))
  obtain ⟨c4, i4, hk4⟩ := u_known (C := RX4) (T := TX4) (N := 3) (n := 3) hts (fun w hw => (List.mem_filter.mp (iw_X4 w hw)).1) (hts _ (List.mem_of_getElem? (i := 210) (by decide +kernel)))
  obtain ⟨c5, i5, hk5⟩ := u_known (C := RX5) (T := TX5) (N := 2) (n := 2) hts (fun w hw => (List.mem_filter.mp (iw_X5 w hw)).1) (hts _ (List.mem_of_getElem? (i := 317) (by decide +kernel)))
  obtain ⟨c6, i6, hk6⟩ := u_known (C := RX6) (T := TX6) (N := 5) (n := 5) hts (fun w hw => (List.mem_filter.mp (iw_X6 w hw)).1) (hts _ (List.mem_of_getElem? (i := 264) (by decide +kernel)))
  obtain ⟨c7, i7, hk7⟩ := u_known (C := RX7) (T := TX7) (N := 13) (n := 13) hts (fun w hw => (List.mem_filter.mp (iw_X7 w hw)).1) (hts _ (List.mem_of_getElem? (i := 136) (by decide +kernel)))
  obtain ⟨c8, i8, hk8⟩ := u_known (C := RX8) (T := TX8) (N := 40) (n := 40) hts (fun w hw => (List.mem_filter.mp (iw_X8 w hw)).1) (hts _ (List.mem_of_getElem? (i := 984) (by decide +kernel)))
  obtain ⟨t0, kA0, cm0, hA0, hB0, hC0⟩ := Cond.arrayClass_spec (type := .int) (hts (.arrayClass .int) (List.mem_of_getElem? (i := 186) (by decide +kernel)))
  obtain ⟨t1, kA1, cm1, hA1, hB1, hC1⟩ := Cond.arrayClass_spec (type := .long) (hts (.arrayClass .long) (List.mem_of_getElem? (i := 330) (by decide +kernel)))
  obtain ⟨t2, kA2, cm2, hA2, hB2, hC2⟩ := Cond.arrayClass_spec (type := .byte) (hts (.arrayClass .byte) (List.mem_of_getElem? (i := 289) (by decide +kernel)))
  obtain ⟨t3, kA3, cm3, hA3, hB3, hC3⟩ := Cond.arrayClass_spec (type := .char) (hts (.arrayClass .char) (List.mem_of_getElem? (i := 316) (by decide +kernel)))
  have hO4 : (Cond.arrayOver (.object RX0)).before #[Value.ref b] s = true := hts _ (List.mem_of_getElem? (i := 208) (by decide +kernel))
  obtain ⟨cm4, t4, kA4, f14, -, f24, f34, f44⟩ := Cond.arrayOver_spec hO4
  have hO5 : (Cond.arrayOver (.object RX3)).before #[Value.ref b] s = true := hts _ (List.mem_of_getElem? (i := 194) (by decide +kernel))
  obtain ⟨cm5, t5, kA5, f15, -, f25, f35, f45⟩ := Cond.arrayOver_spec hO5
  have hO6 : (Cond.arrayOver (.object RX5)).before #[Value.ref b] s = true := hts _ (List.mem_of_getElem? (i := 291) (by decide +kernel))
  obtain ⟨cm6, t6, kA6, f16, -, f26, f36, f46⟩ := Cond.arrayOver_spec hO6
  refine ⟨(fun k => [c0, c1, c2, c3, c4, c5, c6, c7, c8].getD k c0, fun k => [i0, i1, i2, i3, i4, i5, i6, i7, i8].getD k i0), fun k => [t0, t1, t2, t3, t4, t5, t6].getD k t0, ⟨fun k q hq => ?_, fun k q hq => ?_⟩, fun w hw => ?_, ⟨va_AO.of hO4, va_AO.of hO5, va_AO.of hO6⟩⟩
  · match k, hq with
    | 0, hq => cases hq; exact hk0
    | 1, hq => cases hq; exact hk1
    | 2, hq => cases hq; exact hk2
    | 3, hq => cases hq; exact hk3
    | 4, hq => cases hq; exact hk4
    | 5, hq => cases hq; exact hk5
    | 6, hq => cases hq; exact hk6
    | 7, hq => cases hq; exact hk7
    | 8, hq => cases hq; exact hk8
    | k + 9, hq => simp [vwCl] at hq
  · match k, hq with
    | 0, hq => cases hq; exact ⟨fun n z => ⟨fun k h => (by cases h), kA0, hB0, cm0, hC0⟩, hA0⟩
    | 1, hq => cases hq; exact ⟨fun n z => ⟨fun k h => (by cases h), kA1, hB1, cm1, hC1⟩, hA1⟩
    | 2, hq => cases hq; exact ⟨fun n z => ⟨fun k h => (by cases h), kA2, hB2, cm2, hC2⟩, hA2⟩
    | 3, hq => cases hq; exact ⟨fun n z => ⟨fun k h => (by cases h), kA3, hB3, cm3, hC3⟩, hA3⟩
    | 4, hq => cases hq; exact ⟨fun n z => ⟨fun k h => (by cases h), kA4, f24, cm4, f34⟩, kA4, cm4, f24, f34, f14, f44⟩
    | 5, hq => cases hq; exact ⟨fun n z => ⟨fun k h => (by cases h), kA5, f25, cm5, f35⟩, kA5, cm5, f25, f35, f15, f45⟩
    | 6, hq => cases hq; exact ⟨fun n z => ⟨fun k h => (by cases h), kA6, f26, cm6, f36⟩, kA6, cm6, f26, f36, f16, f46⟩
    | k + 7, hq => simp [q_tys] at hq
  · have h0 := hts w (List.mem_filter.mp hw).1
    have hn := (List.mem_filter.mp hw).2
    cases w <;> first | (cases hn; done) | exact va_Nw.of rfl h0
theorem l_stat {s : State} {b : Nat} (hts : ∀ w ∈ lw_tbl, w.before #[Value.ref b] s = true) (hgv : (Jvm.Cond.and given_1 narrow_1).before #[Value.ref b] s = true) : ∃ a0 a1 a2 : Nat, ∀ ad : Int → Nat, ad 1000 = a0 → ad 1001 = a1 → ad 1002 = a2 → q_St ad (l_new s) s s.heap := by
  have hs := flat_of_before _ hgv
  have hA : ∀ a : Nat, a < s.heap.size → ¬ l_new s a := fun a h => Nat.not_le.mpr h
  have hm1 : ∀ j : Nat, j < 60 → Cond.eq (.elem (.static "TrackChamber" "NUMBERS" "[I") (.int (Int32.ofNat j))) (.int (Int32.ofInt (q_num.getD j 0))) ∈ flatC (Jvm.Cond.and given_1 narrow_1) := by decide +kernel
  have hm2 : ∀ j : Nat, j < 12 → Cond.eq (.elem (.field (.string "TrackChamber$Tape" 60) "java/lang/String" "value" "[B") (.int (Int32.ofNat j))) (.int (Int32.ofInt (q_let.getD j 0))) ∈ flatC (Jvm.Cond.and given_1 narrow_1) := by decide +kernel
  obtain ⟨a0, h1, h2⟩ := va_Tof (tm := .static "TrackChamber" "NUMBERS" "[I") (ty := .int) (N := 60) (f := fun j => .int (Int32.ofInt (q_num.getD j 0))) (by decide) (hs _ (by decide +kernel)) (va_eqt (z := Int32.ofNat 60) (hs _ (by decide +kernel))) (fun j hj => va_eqt (hs _ (hm1 j hj))) hA
  have hex : (Cond.exactly (.string "TrackChamber$Tape" 60) "java/lang/String").before #[Value.ref b] s = true := hs _ (by decide +kernel)
  obtain ⟨a1, c, cell, k, q1, -⟩ := Cond.exactly_spec (args := #[Value.ref b]) (first := s) (o := none) (s := s) (idx := []) hex
  have h3 := va_Oof hex q1 hA
  have h4 := vk_OFof (o := "java/lang/String") (n := "coder") (d := "B") (v := .int 0) q1 (va_eqt (hs _ (by decide +kernel))) hA
  obtain ⟨a2, h5, h6⟩ := va_Tof (tm := .field (.string "TrackChamber$Tape" 60) "java/lang/String" "value" "[B") (ty := .byte) (N := 12) (f := fun j => .int (Int32.ofInt (q_let.getD j 0))) (by decide) (hs _ (by decide +kernel)) (va_eqt (z := Int32.ofNat 12) (hs _ (by decide +kernel))) (fun j hj => va_eqt (hs _ (hm2 j hj))) hA
  have h7 := vk_OFof (o := "java/lang/String") (n := "value") (d := "[B") (v := .ref a2) q1 h5 hA
  have h8 := vk_R.of (hts (.stringRef "TrackChamber$Tape" 60 "pnevabckmols") (List.mem_of_getElem? (i := 783) (by decide +kernel))) q1
  have h9 := vk_R.of (hts (.stringRef "TrackChamber" 410 "pnevabckmols") (List.mem_of_getElem? (i := 898) (by decide +kernel))) (va_eqR (t := (.string "TrackChamber$Tape" 60)) (u := .string "TrackChamber" 410) (hs _ (by decide +kernel)) q1)
  have g1 := va_Zref (hts (.laysStatic "TrackChamber" "NUMBERS" "[I") (List.mem_of_getElem? (i := 427) (by decide +kernel))) (hts (.initialized "TrackChamber") (List.mem_of_getElem? (i := 117) (by decide +kernel))) h1 hA
  have g2 := va_Zof (v := .int 1) (hts (.laysStatic "java/lang/String" "COMPACT_STRINGS" "Z") (List.mem_of_getElem? (i := 797) (by decide +kernel))) (hts (.initialized "java/lang/String") (List.mem_of_getElem? (i := 130) (by decide +kernel))) (va_eqi (hs _ (by decide +kernel))) hA
  have g3 := va_Zqof (hts (.laysStatic "jdk/internal/util/Preconditions" "SIOOBE_FORMATTER" "Ljava/util/function/BiFunction;") (List.mem_of_getElem? (i := 838) (by decide +kernel))) (hts (.initialized "jdk/internal/util/Preconditions") (List.mem_of_getElem? (i := 133) (by decide +kernel))) (hs _ (by decide +kernel)) hA
  refine ⟨a0, a1, a2, fun ad e0 e1 e2 => ?_⟩
  unfold q_St
  rw [e0, e1, e2]
  exact ⟨g1, h2, h3, h4, h7, h6, g2, h8, h9, g3⟩
