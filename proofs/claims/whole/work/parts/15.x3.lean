set_option maxRecDepth 100000 in
theorem zX4_clear (u : Int) (σ : q_S) (hu : q_is shX u (.inl (4, [.inl 1, .inl 1, .inl 1]))) : q_Ct mX4_clear shX [.inr (.inr u)] σ (fun r σ' => r = none ∧ σ' = q_up (q_up (q_up σ u 0 0) u 1 0) u 2 1) := by
  refine q_ct 0 (by decide) rfl rfl ?_
  show q_WP mX4_clear shX 0 [some (.inr (.inr u))] [] σ _
  refine q_aload_n (n := 1) dX4_clear_0 rfl rfl ?_
  refine q_lconst (x := 0) (n := 2) dX4_clear_1 rfl (k := ?_)
  refine q_putJ (kI := 0) (n := 5) dX4_clear_2 rfl pX4_13 hu rfl rfl ?_
  refine q_aload_n (n := 6) dX4_clear_5 rfl rfl ?_
  refine q_lconst (x := 0) (n := 7) dX4_clear_6 rfl (k := ?_)
  refine q_putJ (kI := 1) (n := 10) dX4_clear_7 rfl pX4_16 hu rfl rfl ?_
  refine q_aload_n (n := 11) dX4_clear_10 rfl rfl ?_
  refine q_lconst (x := 1) (n := 12) dX4_clear_11 rfl (k := ?_)
  refine q_putJ (kI := 2) (n := 15) dX4_clear_12 rfl pX4_7 hu rfl rfl ?_
  refine q_vret dX4_clear_15 rfl ?_
  exact ⟨rfl, rfl⟩
set_option maxRecDepth 100000 in
theorem zX4_isNone (u : Int) (σ : q_S) (hu : q_is shX u (.inl (4, [.inl 1, .inl 1, .inl 1]))) : q_Ct mX4_isNone shX [.inr (.inr u)] σ (fun r σ' => r = some (.inl (if σ u 0 = 0 ∧ σ u 1 = 0 then 1 else 0)) ∧ σ' = σ) := by
  refine q_ct 0 (by decide) rfl rfl ?_
  show q_WP mX4_isNone shX 0 [some (.inr (.inr u))] [] σ _
  refine q_aload_n (n := 1) dX4_isNone_0 rfl rfl ?_
  refine q_getJ (kI := 0) (n := 4) dX4_isNone_1 rfl fX4_13 hu rfl rfl ?_
  refine q_lconst (x := 0) (n := 5) dX4_isNone_4 rfl (k := ?_)
  refine q_lcmp (n := 6) dX4_isNone_5 rfl ?_
  refine q_if_ne (n := 9) (t := 22) dX4_isNone_6 rfl (by decide) (fun h6 => ?_) (fun h6 => ?_)
  · have h6 := q_knet.mp h6
    refine q_iconst (n := 23) dX4_isNone_22 rfl (k := ?_)
    refine q_iret dX4_isNone_23 rfl (fun _ => rfl) ?_
    first | exact ⟨q_lf1 (by first | assumption | omega | simp_all), rfl⟩ | exact ⟨q_lf0 (by first | assumption | omega | simp_all), rfl⟩
  · have h6 := q_knef.mp h6
    refine q_aload_n (n := 10) dX4_isNone_9 rfl rfl ?_
    refine q_getJ (kI := 1) (n := 13) dX4_isNone_10 rfl fX4_16 hu rfl rfl ?_
    refine q_lconst (x := 0) (n := 14) dX4_isNone_13 rfl (k := ?_)
    refine q_lcmp (n := 15) dX4_isNone_14 rfl ?_
    refine q_if_ne (n := 18) (t := 22) dX4_isNone_15 rfl (by decide) (fun h15 => ?_) (fun h15 => ?_)
    · have h15 := q_knet.mp h15
      refine q_iconst (n := 23) dX4_isNone_22 rfl (k := ?_)
      refine q_iret dX4_isNone_23 rfl (fun _ => rfl) ?_
      first | exact ⟨q_lf1 (by first | assumption | omega | simp_all), rfl⟩ | exact ⟨q_lf0 (by first | assumption | omega | simp_all), rfl⟩
    · have h15 := q_knef.mp h15
      refine q_iconst (n := 19) dX4_isNone_18 rfl (k := ?_)
      refine q_go (t := 23) dX4_isNone_19 (by decide) ?_
      refine q_iret dX4_isNone_23 rfl (fun _ => rfl) ?_
      first | exact ⟨q_lf1 (by first | assumption | omega | simp_all), rfl⟩ | exact ⟨q_lf0 (by first | assumption | omega | simp_all), rfl⟩
set_option maxRecDepth 100000 in
theorem zX4_join (u c s x y y1 : Int) (σ : q_S) (hu : q_is shX u (.inl (4, [.inl 1, .inl 1, .inl 1]))) (hc : q_is shX c (.inl (0, [.inl 1, .inl 1, .inl 1, .inl 1]))) (hs : q_bd s 9) (hx : q_bd x 20) (hy : q_bd y 20) (hy1 : q_bd y1 1) (h0 : q_bd (σ c 0) 3200) (h1 : q_bd (σ c 1) 384000) (h2 : q_bd (σ c 2) 384000) (hcu : c ≠ u) (g1 : q_i64 (σ u 0 * (2 * (if 0 ≤ σ c 0 then σ c 0 else -σ c 0)))) (g2 : q_i64 (y1 * s * (σ c 2 - 2 * σ c 0 * y) * σ u 2)) (g3 : q_i64 (σ u 0 * (2 * (if 0 ≤ σ c 0 then σ c 0 else -σ c 0)) + y1 * s * (σ c 2 - 2 * σ c 0 * y) * σ u 2)) (g4 : q_i64 (σ u 1 * (2 * (if 0 ≤ σ c 0 then σ c 0 else -σ c 0)))) (g5 : q_i64 (y1 * s * (2 * σ c 0 * x - σ c 1) * σ u 2)) (g6 : q_i64 (σ u 1 * (2 * (if 0 ≤ σ c 0 then σ c 0 else -σ c 0)) + y1 * s * (2 * σ c 0 * x - σ c 1) * σ u 2)) (g7 : q_i64 (σ u 2 * (2 * (if 0 ≤ σ c 0 then σ c 0 else -σ c 0)))) : q_Ct mX4_join shX [.inr (.inr u), .inr (.inr c), .inl s, .inl x, .inl y, .inl y1] σ (fun r σ' => r = none ∧ σ' = q_up (q_up (q_up σ u 0 (σ u 0 * (2 * (if 0 ≤ σ c 0 then σ c 0 else -σ c 0)) + y1 * s * (σ c 2 - 2 * σ c 0 * y) * σ u 2)) u 1 (σ u 1 * (2 * (if 0 ≤ σ c 0 then σ c 0 else -σ c 0)) + y1 * s * (2 * σ c 0 * x - σ c 1) * σ u 2)) u 2 (σ u 2 * (2 * (if 0 ≤ σ c 0 then σ c 0 else -σ c 0)))) := by
  refine q_ct 6 (by decide) rfl rfl ?_
  show q_WP mX4_join shX 0 [some (.inr (.inr u)), some (.inr (.inr c)), some (.inl s), some (.inl x), some (.inl y), some (.inl y1), none, none, none, none, none, none] [] σ _
  refine q_ldc2 (x := 2) (n := 3) dX4_join_0 rfl kX4_19 (k := ?_)
  refine q_aload_n (n := 4) dX4_join_3 rfl rfl ?_
  refine q_getJ (kI := 0) (n := 7) dX4_join_4 rfl fX4_21 hc rfl rfl ?_
  have b1_ := h0
  refine q_mabsL (n := 10) dX4_join_7 rfl lmX4_26 rfl rfl (bd_g b1_ (by decide)) ?_
  have b2_ := bd_abs b1_
  have b3_ := bd_mul (C := 6400) (bd_c 2 (2) (by decide)) b2_ (by decide)
  refine q_lmulS (n := 11) dX4_join_10 rfl (bd_64 b3_ (by decide)) ?_
  refine q_lstore (n := 13) dX4_join_11 rfl (by decide) (q_s2_s (q_s2_s (q_s2_s (q_s2_s (q_s2_s (q_s2_1 rfl)))))) ?_
  refine q_iload (n := 15) dX4_join_13 rfl rfl ?_
  refine q_iload_n (n := 16) dX4_join_15 rfl rfl ?_
  have b4_ := bd_mul (C := 9) hy1 hs (by decide)
  refine q_imulS (n := 17) dX4_join_16 rfl (bd_32 b4_ (by decide)) ?_
  refine q_i2l (n := 18) dX4_join_17 rfl ?_
  refine q_aload_n (n := 19) dX4_join_18 rfl rfl ?_
  refine q_getJ (kI := 2) (n := 22) dX4_join_19 rfl fX4_32 hc rfl rfl ?_
  have b5_ := h2
  refine q_ldc2 (x := 2) (n := 25) dX4_join_22 rfl kX4_19 (k := ?_)
  refine q_aload_n (n := 26) dX4_join_25 rfl rfl ?_
  refine q_getJ (kI := 0) (n := 29) dX4_join_26 rfl fX4_21 hc rfl rfl ?_
  have b6_ := h0
  have b7_ := bd_mul (C := 6400) (bd_c 2 (2) (by decide)) b6_ (by decide)
  refine q_lmulS (n := 30) dX4_join_29 rfl (bd_64 b7_ (by decide)) ?_
  refine q_iload (n := 32) dX4_join_30 rfl rfl ?_
  refine q_i2l (n := 33) dX4_join_32 rfl ?_
  have b8_ := bd_mul (C := 128000) b7_ hy (by decide)
  refine q_lmulS (n := 34) dX4_join_33 rfl (bd_64 b8_ (by decide)) ?_
  have b9_ := bd_sub (C := 512000) b5_ b8_ (by decide)
  refine q_lsubS (n := 35) dX4_join_34 rfl (bd_64 b9_ (by decide)) ?_
  have b10_ := bd_mul (C := 4608000) b4_ b9_ (by decide)
  refine q_lmulS (n := 36) dX4_join_35 rfl (bd_64 b10_ (by decide)) ?_
  refine q_lstore (n := 38) dX4_join_36 rfl (by decide) (q_s2_s (q_s2_s (q_s2_s (q_s2_s (q_s2_s (q_s2_s (q_s2_s (q_s2_1 rfl)))))))) ?_
  refine q_iload (n := 40) dX4_join_38 rfl rfl ?_
  refine q_iload_n (n := 41) dX4_join_40 rfl rfl ?_
  have b11_ := bd_mul (C := 9) hy1 hs (by decide)
  refine q_imulS (n := 42) dX4_join_41 rfl (bd_32 b11_ (by decide)) ?_
  refine q_i2l (n := 43) dX4_join_42 rfl ?_
  refine q_ldc2 (x := 2) (n := 46) dX4_join_43 rfl kX4_19 (k := ?_)
  refine q_aload_n (n := 47) dX4_join_46 rfl rfl ?_
  refine q_getJ (kI := 0) (n := 50) dX4_join_47 rfl fX4_21 hc rfl rfl ?_
  have b12_ := h0
  have b13_ := bd_mul (C := 6400) (bd_c 2 (2) (by decide)) b12_ (by decide)
  refine q_lmulS (n := 51) dX4_join_50 rfl (bd_64 b13_ (by decide)) ?_
  refine q_iload_n (n := 52) dX4_join_51 rfl rfl ?_
  refine q_i2l (n := 53) dX4_join_52 rfl ?_
  have b14_ := bd_mul (C := 128000) b13_ hx (by decide)
  refine q_lmulS (n := 54) dX4_join_53 rfl (bd_64 b14_ (by decide)) ?_
  refine q_aload_n (n := 55) dX4_join_54 rfl rfl ?_
  refine q_getJ (kI := 1) (n := 58) dX4_join_55 rfl fX4_35 hc rfl rfl ?_
  have b15_ := h1
  have b16_ := bd_sub (C := 512000) b14_ b15_ (by decide)
  refine q_lsubS (n := 59) dX4_join_58 rfl (bd_64 b16_ (by decide)) ?_
  have b17_ := bd_mul (C := 4608000) b11_ b16_ (by decide)
  refine q_lmulS (n := 60) dX4_join_59 rfl (bd_64 b17_ (by decide)) ?_
  refine q_lstore (n := 62) dX4_join_60 rfl (by decide) (q_s2_s (q_s2_s (q_s2_s (q_s2_s (q_s2_s (q_s2_s (q_s2_s (q_s2_s (q_s2_s (q_s2_1 rfl)))))))))) ?_
  refine q_aload_n (n := 63) dX4_join_62 rfl rfl ?_
  refine q_aload_n (n := 64) dX4_join_63 rfl rfl ?_
  refine q_getJ (kI := 0) (n := 67) dX4_join_64 rfl fX4_13 hu rfl rfl ?_
  refine q_lload (n := 69) dX4_join_67 rfl rfl ?_
  refine q_lmulS (n := 70) dX4_join_69 rfl g1 ?_
  refine q_lload (n := 72) dX4_join_70 rfl rfl ?_
  refine q_aload_n (n := 73) dX4_join_72 rfl rfl ?_
  refine q_getJ (kI := 2) (n := 76) dX4_join_73 rfl fX4_7 hu rfl rfl ?_
  refine q_lmulS (n := 77) dX4_join_76 rfl g2 ?_
  refine q_laddS (n := 78) dX4_join_77 rfl g3 ?_
  refine q_putJ (kI := 0) (n := 81) dX4_join_78 rfl pX4_13 hu rfl rfl ?_
  refine q_aload_n (n := 82) dX4_join_81 rfl rfl ?_
  refine q_aload_n (n := 83) dX4_join_82 rfl rfl ?_
  refine q_getJE (σ u 1) (kI := 1) (n := 86) dX4_join_83 rfl fX4_16 hu rfl rfl (by rw [q_up_n (by omega)]) ?_
  refine q_lload (n := 88) dX4_join_86 rfl rfl ?_
  refine q_lmulS (n := 89) dX4_join_88 rfl g4 ?_
  refine q_lload (n := 91) dX4_join_89 rfl rfl ?_
  refine q_aload_n (n := 92) dX4_join_91 rfl rfl ?_
  refine q_getJE (σ u 2) (kI := 2) (n := 95) dX4_join_92 rfl fX4_7 hu rfl rfl (by rw [q_up_n (by omega)]) ?_
  refine q_lmulS (n := 96) dX4_join_95 rfl g5 ?_
  refine q_laddS (n := 97) dX4_join_96 rfl g6 ?_
  refine q_putJ (kI := 1) (n := 100) dX4_join_97 rfl pX4_16 hu rfl rfl ?_
  refine q_aload_n (n := 101) dX4_join_100 rfl rfl ?_
  refine q_aload_n (n := 102) dX4_join_101 rfl rfl ?_
  refine q_getJE (σ u 2) (kI := 2) (n := 105) dX4_join_102 rfl fX4_7 hu rfl rfl (by rw [q_up_n (by omega), q_up_n (by omega)]) ?_
  refine q_lload (n := 107) dX4_join_105 rfl rfl ?_
  refine q_lmulS (n := 108) dX4_join_107 rfl g7 ?_
  refine q_putJ (kI := 2) (n := 111) dX4_join_108 rfl pX4_7 hu rfl rfl ?_
  refine q_vret dX4_join_111 rfl ?_
  exact ⟨rfl, rfl⟩
set_option maxRecDepth 100000 in
theorem zX4_strength (u : Int) (σ : q_S) (hu : q_is shX u (.inl (4, [.inl 1, .inl 1, .inl 1]))) (hw : 1 ≤ σ u 2) (h0 : q_bd ((σ u 0).tdiv (σ u 2)) 1000000000) (h1 : q_bd ((σ u 1).tdiv (σ u 2)) 1000000000) : q_Ct mX4_strength shX [.inr (.inr u)] σ (fun r σ' => r = some (.inr (.inl ((σ u 0).tdiv (σ u 2) * (σ u 0).tdiv (σ u 2) + (σ u 1).tdiv (σ u 2) * (σ u 1).tdiv (σ u 2)))) ∧ σ' = σ) := by
  refine q_ct 6 (by decide) rfl rfl ?_
  show q_WP mX4_strength shX 0 [some (.inr (.inr u)), none, none, none, none, none, none] [] σ _
  refine q_lconst (x := 1) (n := 1) dX4_strength_0 rfl (k := ?_)
  refine q_aload_n (n := 2) dX4_strength_1 rfl rfl ?_
  refine q_getJ (kI := 2) (n := 5) dX4_strength_2 rfl fX4_7 hu rfl rfl ?_
  refine q_mmaxL (n := 8) dX4_strength_5 rfl lmX4_44 rfl rfl ?_
  refine q_topJ (σ u 2) (by split <;> omega) ?_
  refine q_lstore_n (n := 9) dX4_strength_8 rfl (by decide) (q_s2_1 rfl) ?_
  refine q_aload_n (n := 10) dX4_strength_9 rfl rfl ?_
  refine q_getJ (kI := 0) (n := 13) dX4_strength_10 rfl fX4_13 hu rfl rfl ?_
  refine q_lload_n (n := 14) dX4_strength_13 rfl rfl ?_
  refine q_ldiv (n := 15) dX4_strength_14 rfl (by omega) ?_
  have b18_ := h0
  refine q_topJ ((σ u 0).tdiv (σ u 2)) (q_W_id (bd_64 h0 (by decide))) ?_
  refine q_lstore_n (n := 16) dX4_strength_15 rfl (by decide) (q_s2_s (q_s2_s (q_s2_1 rfl))) ?_
  refine q_aload_n (n := 17) dX4_strength_16 rfl rfl ?_
  refine q_getJ (kI := 1) (n := 20) dX4_strength_17 rfl fX4_16 hu rfl rfl ?_
  refine q_lload_n (n := 21) dX4_strength_20 rfl rfl ?_
  refine q_ldiv (n := 22) dX4_strength_21 rfl (by omega) ?_
  have b19_ := h1
  refine q_topJ ((σ u 1).tdiv (σ u 2)) (q_W_id (bd_64 h1 (by decide))) ?_
  refine q_lstore (n := 24) dX4_strength_22 rfl (by decide) (q_s2_s (q_s2_s (q_s2_s (q_s2_s (q_s2_1 rfl))))) ?_
  refine q_lload_n (n := 25) dX4_strength_24 rfl rfl ?_
  refine q_lload_n (n := 26) dX4_strength_25 rfl rfl ?_
  have b20_ := bd_mul (C := 1000000000000000000) b18_ b18_ (by decide)
  refine q_lmulS (n := 27) dX4_strength_26 rfl (bd_64 b20_ (by decide)) ?_
  refine q_lload (n := 29) dX4_strength_27 rfl rfl ?_
  refine q_lload (n := 31) dX4_strength_29 rfl rfl ?_
  have b21_ := bd_mul (C := 1000000000000000000) b19_ b19_ (by decide)
  refine q_lmulS (n := 32) dX4_strength_31 rfl (bd_64 b21_ (by decide)) ?_
  have b22_ := bd_add (C := 2000000000000000000) b20_ b21_ (by decide)
  refine q_laddS (n := 33) dX4_strength_32 rfl (bd_64 b22_ (by decide)) ?_
  refine q_lret dX4_strength_33 rfl ?_
  exact ⟨rfl, rfl⟩
set_option maxRecDepth 100000 in
theorem zX4_partAlong0 (u a k : Int) (σ : q_S) (hu : q_is shX u (.inl (4, [.inl 1, .inl 1, .inl 1]))) (hax : a = 0) (ha : -9223372036854775808 < σ u 0) : q_Ct mX4_partAlong shX [.inr (.inr u), .inl a, .inl k] σ (fun r σ' => r = some (.inr (.inl (lowE (σ u 0) (σ u 2) k))) ∧ σ' = σ) := by
  refine q_ct 0 (by decide) rfl rfl ?_
  show q_WP mX4_partAlong shX 0 [some (.inr (.inr u)), some (.inl a), some (.inl k)] [] σ _
  refine q_iload_n (n := 1) dX4_partAlong_0 rfl rfl ?_
  refine q_if_ne (n := 4) (t := 11) dX4_partAlong_1 rfl (by decide) (fun h1 => ?_) (fun h1 => ?_)
  · exact absurd hax h1
  · skip
    refine q_aload_n (n := 5) dX4_partAlong_4 rfl rfl ?_
    refine q_getJ (kI := 0) (n := 8) dX4_partAlong_5 rfl fX4_13 hu rfl rfl ?_
    refine q_go (t := 15) dX4_partAlong_8 (by decide) ?_
    refine q_aload_n (n := 16) dX4_partAlong_15 rfl rfl ?_
    refine q_getJ (kI := 2) (n := 19) dX4_partAlong_16 rfl fX4_7 hu rfl rfl ?_
    refine q_iload_n (n := 20) dX4_partAlong_19 rfl rfl ?_
    refine q_c3D (n := 23) dX4_partAlong_20 rfl (zX7_lowest _ _ _ _ _ ha) vX7_lowest lX4_38 rfl rfl ?_
    refine q_lret dX4_partAlong_23 rfl ?_
    exact ⟨rfl, rfl⟩
set_option maxRecDepth 100000 in
theorem zX4_partAlong1 (u a k : Int) (σ : q_S) (hu : q_is shX u (.inl (4, [.inl 1, .inl 1, .inl 1]))) (hax : a ≠ 0) (ha : -9223372036854775808 < σ u 1) : q_Ct mX4_partAlong shX [.inr (.inr u), .inl a, .inl k] σ (fun r σ' => r = some (.inr (.inl (lowE (σ u 1) (σ u 2) k))) ∧ σ' = σ) := by
  refine q_ct 0 (by decide) rfl rfl ?_
  show q_WP mX4_partAlong shX 0 [some (.inr (.inr u)), some (.inl a), some (.inl k)] [] σ _
  refine q_iload_n (n := 1) dX4_partAlong_0 rfl rfl ?_
  refine q_if_ne (n := 4) (t := 11) dX4_partAlong_1 rfl (by decide) (fun h1 => ?_) (fun h1 => ?_)
  · skip
    refine q_aload_n (n := 12) dX4_partAlong_11 rfl rfl ?_
    refine q_getJ (kI := 1) (n := 15) dX4_partAlong_12 rfl fX4_16 hu rfl rfl ?_
    refine q_aload_n (n := 16) dX4_partAlong_15 rfl rfl ?_
    refine q_getJ (kI := 2) (n := 19) dX4_partAlong_16 rfl fX4_7 hu rfl rfl ?_
    refine q_iload_n (n := 20) dX4_partAlong_19 rfl rfl ?_
    refine q_c3D (n := 23) dX4_partAlong_20 rfl (zX7_lowest _ _ _ _ _ ha) vX7_lowest lX4_38 rfl rfl ?_
    refine q_lret dX4_partAlong_23 rfl ?_
    exact ⟨rfl, rfl⟩
  · exact absurd h1 hax
set_option maxRecDepth 100000 in
theorem zX4_goesAlong (u wx wy : Int) (σ : q_S) (hu : q_is shX u (.inl (4, [.inl 1, .inl 1, .inl 1]))) (hx : q_bd wx 40) (hy : q_bd wy 40) (h0 : q_bd (σ u 0) 100000000000000000) (h1 : q_bd (σ u 1) 100000000000000000) : q_Ct mX4_goesAlong shX [.inr (.inr u), .inl wx, .inl wy] σ (fun r σ' => r = some (.inl (if σ u 0 * wy = σ u 1 * wx ∧ 0 < σ u 0 * wx + σ u 1 * wy then 1 else 0)) ∧ σ' = σ) := by
  refine q_ct 0 (by decide) rfl rfl ?_
  show q_WP mX4_goesAlong shX 0 [some (.inr (.inr u)), some (.inl wx), some (.inl wy)] [] σ _
  refine q_aload_n (n := 1) dX4_goesAlong_0 rfl rfl ?_
  refine q_getJ (kI := 0) (n := 4) dX4_goesAlong_1 rfl fX4_13 hu rfl rfl ?_
  have b23_ := h0
  refine q_iload_n (n := 5) dX4_goesAlong_4 rfl rfl ?_
  refine q_i2l (n := 6) dX4_goesAlong_5 rfl ?_
  have b24_ := bd_mul (C := 4000000000000000000) b23_ hy (by decide)
  refine q_lmulS (n := 7) dX4_goesAlong_6 rfl (bd_64 b24_ (by decide)) ?_
  refine q_aload_n (n := 8) dX4_goesAlong_7 rfl rfl ?_
  refine q_getJ (kI := 1) (n := 11) dX4_goesAlong_8 rfl fX4_16 hu rfl rfl ?_
  have b25_ := h1
  refine q_iload_n (n := 12) dX4_goesAlong_11 rfl rfl ?_
  refine q_i2l (n := 13) dX4_goesAlong_12 rfl ?_
  have b26_ := bd_mul (C := 4000000000000000000) b25_ hx (by decide)
  refine q_lmulS (n := 14) dX4_goesAlong_13 rfl (bd_64 b26_ (by decide)) ?_
  refine q_lcmp (n := 15) dX4_goesAlong_14 rfl ?_
  refine q_if_ne (n := 18) (t := 42) dX4_goesAlong_15 rfl (by decide) (fun h15 => ?_) (fun h15 => ?_)
  · have h15 := q_knet.mp h15
    refine q_iconst (n := 43) dX4_goesAlong_42 rfl (k := ?_)
    refine q_iret dX4_goesAlong_43 rfl (fun _ => rfl) ?_
    first | exact ⟨q_lf1 ⟨by assumption, by assumption⟩, rfl⟩ | exact ⟨q_lf0 (fun h => by first | exact absurd h.1 (by assumption) | (have := h.2; omega)), rfl⟩
  · have h15 := q_knef.mp h15
    refine q_aload_n (n := 19) dX4_goesAlong_18 rfl rfl ?_
    refine q_getJ (kI := 0) (n := 22) dX4_goesAlong_19 rfl fX4_13 hu rfl rfl ?_
    have b27_ := h0
    refine q_iload_n (n := 23) dX4_goesAlong_22 rfl rfl ?_
    refine q_i2l (n := 24) dX4_goesAlong_23 rfl ?_
    have b28_ := bd_mul (C := 4000000000000000000) b27_ hx (by decide)
    refine q_lmulS (n := 25) dX4_goesAlong_24 rfl (bd_64 b28_ (by decide)) ?_
    refine q_aload_n (n := 26) dX4_goesAlong_25 rfl rfl ?_
    refine q_getJ (kI := 1) (n := 29) dX4_goesAlong_26 rfl fX4_16 hu rfl rfl ?_
    have b29_ := h1
    refine q_iload_n (n := 30) dX4_goesAlong_29 rfl rfl ?_
    refine q_i2l (n := 31) dX4_goesAlong_30 rfl ?_
    have b30_ := bd_mul (C := 4000000000000000000) b29_ hy (by decide)
    refine q_lmulS (n := 32) dX4_goesAlong_31 rfl (bd_64 b30_ (by decide)) ?_
    have b31_ := bd_add (C := 8000000000000000000) b28_ b30_ (by decide)
    refine q_laddS (n := 33) dX4_goesAlong_32 rfl (bd_64 b31_ (by decide)) ?_
    refine q_lconst (x := 0) (n := 34) dX4_goesAlong_33 rfl (k := ?_)
    refine q_lcmp (n := 35) dX4_goesAlong_34 rfl ?_
    refine q_if_le (n := 38) (t := 42) dX4_goesAlong_35 rfl (by decide) (fun h35 => ?_) (fun h35 => ?_)
    · have h35 := q_klet.mp h35
      refine q_iconst (n := 43) dX4_goesAlong_42 rfl (k := ?_)
      refine q_iret dX4_goesAlong_43 rfl (fun _ => rfl) ?_
      first | exact ⟨q_lf1 ⟨by assumption, by assumption⟩, rfl⟩ | exact ⟨q_lf0 (fun h => by first | exact absurd h.1 (by assumption) | (have := h.2; omega)), rfl⟩
    · have h35 := q_klef.mp h35
      refine q_iconst (n := 39) dX4_goesAlong_38 rfl (k := ?_)
      refine q_go (t := 43) dX4_goesAlong_39 (by decide) ?_
      refine q_iret dX4_goesAlong_43 rfl (fun _ => rfl) ?_
      first | exact ⟨q_lf1 ⟨by assumption, by assumption⟩, rfl⟩ | exact ⟨q_lf0 (fun h => by first | exact absurd h.1 (by assumption) | (have := h.2; omega)), rfl⟩
set_option maxRecDepth 100000 in
theorem lpX3_tt (σ : q_S) (h8 : σ 1 1 ≤ 8) : ∀ (n : Nat) (i k : Int), (n : Int) + i = σ 1 1 → 0 ≤ i → 0 ≤ k → k ≤ i → q_WP mX3_toldTracks shX 4 [some (.inr (.inr 1)), some (.inl k), some (.inl i)] [] σ (fun r σ' => r = some (.inl (tld (σ 3) n i k)) ∧ σ' = σ) := by
  intro n
  induction n with
  | zero =>
    intro i k hi h0 hk0 hk
    refine q_iload_n (n := 5) dX3_toldTracks_4 rfl rfl ?_
    refine q_aload_n (n := 6) dX3_toldTracks_5 rfl rfl ?_
    refine q_getI (kI := 1) (n := 9) (by decide) dX3_toldTracks_6 rfl fX3_15 xi1 rfl rfl ?_
    refine q_icmp_ge (n := 12) (t := 32) dX3_toldTracks_9 rfl (by decide) (fun h9 => ?_) (fun h9 => ?_)
    · skip
      refine q_iload_n (n := 33) dX3_toldTracks_32 rfl rfl ?_
      refine q_iret dX3_toldTracks_33 rfl (fun _ => rfl) ?_
      exact ⟨rfl, rfl⟩
    · exact absurd h9 (by omega)
  | succ n ih =>
    intro i k hi h0 hk0 hk
    refine q_iload_n (n := 5) dX3_toldTracks_4 rfl rfl ?_
    refine q_aload_n (n := 6) dX3_toldTracks_5 rfl rfl ?_
    refine q_getI (kI := 1) (n := 9) (by decide) dX3_toldTracks_6 rfl fX3_15 xi1 rfl rfl ?_
    refine q_icmp_ge (n := 12) (t := 32) dX3_toldTracks_9 rfl (by decide) (fun h9 => ?_) (fun h9 => ?_)
    · exact absurd h9 (by omega)
    · skip
      refine q_aload_n (n := 13) dX3_toldTracks_12 rfl rfl ?_
      refine q_getR (n := 16) dX3_toldTracks_13 rfl fX3_25 xi1 rfl ?_
      refine q_iload_n (n := 17) dX3_toldTracks_16 rfl rfl ?_
      refine q_iaload (n := 18) dX3_toldTracks_17 rfl xi3 ⟨by omega, by omega⟩ ?_
      refine q_bipush (n := 20) dX3_toldTracks_18 rfl (k := ?_)
      refine q_icmp_eq (n := 23) (t := 26) dX3_toldTracks_20 rfl (by decide) (fun h20 => ?_) (fun h20 => ?_)
      · skip
        refine q_iinc (n := 29) dX3_toldTracks_26 rfl (by decide) rfl (q_nwid ⟨by omega, by omega⟩) (q_s1_s (q_s1_1 rfl)) ?_
        refine q_go (t := 4) dX3_toldTracks_29 (by decide) ?_
        rw [tld]
        first
          | (rw [if_pos (by assumption)]; exact ih _ _ (by omega) (by omega) (by omega) (by omega))
          | (rw [if_neg (by assumption)]; exact ih _ _ (by omega) (by omega) (by omega) (by omega))
      · skip
        refine q_iinc (n := 26) dX3_toldTracks_23 rfl (by decide) rfl (q_nwid ⟨by omega, by omega⟩) (q_s1_1 rfl) ?_
        refine q_iinc (n := 29) dX3_toldTracks_26 rfl (by decide) rfl (q_nwid ⟨by omega, by omega⟩) (q_s1_s (q_s1_1 rfl)) ?_
        refine q_go (t := 4) dX3_toldTracks_29 (by decide) ?_
        rw [tld]
        first
          | (rw [if_pos (by assumption)]; exact ih _ _ (by omega) (by omega) (by omega) (by omega))
          | (rw [if_neg (by assumption)]; exact ih _ _ (by omega) (by omega) (by omega) (by omega))
set_option maxRecDepth 100000 in
theorem zX3_toldTracks (σ : q_S) (h : 0 ≤ σ 1 1 ∧ σ 1 1 ≤ 8) : q_Ct mX3_toldTracks shX [.inr (.inr 1)] σ (fun r σ' => r = some (.inl (tld (σ 3) (σ 1 1).toNat 0 0)) ∧ σ' = σ) := by
  refine q_ct 2 (by decide) rfl rfl ?_
  show q_WP mX3_toldTracks shX 0 [some (.inr (.inr 1)), none, none] [] σ _
  refine q_iconst (n := 1) dX3_toldTracks_0 rfl (k := ?_)
  refine q_istore_n (n := 2) dX3_toldTracks_1 rfl (by decide) (q_s1_1 rfl) ?_
  refine q_iconst (n := 3) dX3_toldTracks_2 rfl (k := ?_)
  refine q_istore_n (n := 4) dX3_toldTracks_3 rfl (by decide) (q_s1_s (q_s1_1 rfl)) ?_
  exact lpX3_tt σ h.2 (σ 1 1).toNat 0 0 (by omega) (by omega) (by omega) (by omega)
set_option maxRecDepth 100000 in
theorem lpX3_rt (σ : q_S) (h4 : σ 1 2 ≤ 4) (h8 : 1 ≤ σ 1 1 ∧ σ 1 1 ≤ 8) : ∀ (n : Nat) (i : Int), (n : Int) + i = σ 1 2 → 0 ≤ i → q_WP mX3_removeTrack shX 19 [some (.inr (.inr 1)), some (.inl (σ 1 1 - 1)), some (.inl i)] [] σ (fun r σ' => ∃ v, r = some v ∧ (rmv (σ 6) (σ 7) (σ 1 1 - 1) n i ∧ v = .inl (-5) ∧ σ' = σ ∨ ¬ rmv (σ 6) (σ 7) (σ 1 1 - 1) n i ∧ v = .inl (σ 1 1 - 1) ∧ σ' = q_up σ 1 1 (σ 1 1 - 1))) := by
  intro n
  induction n with
  | zero =>
    intro i hi h0
    refine q_iload_n (n := 20) dX3_removeTrack_19 rfl rfl ?_
    refine q_aload_n (n := 21) dX3_removeTrack_20 rfl rfl ?_
    refine q_getI (kI := 2) (n := 24) (by decide) dX3_removeTrack_21 rfl fX3_18 xi1 rfl rfl ?_
    refine q_icmp_ge (n := 27) (t := 55) dX3_removeTrack_24 rfl (by decide) (fun h24 => ?_) (fun h24 => ?_)
    · skip
      refine q_aload_n (n := 56) dX3_removeTrack_55 rfl rfl ?_
      refine q_iload_n (n := 57) dX3_removeTrack_56 rfl rfl ?_
      refine q_putI (kI := 1) (n := 60) dX3_removeTrack_57 rfl pX3_15 xi1 rfl rfl ?_
      refine q_aload_n (n := 61) dX3_removeTrack_60 rfl rfl ?_
      refine q_getIE (σ 1 1 - 1) (kI := 1) (n := 64) (by decide) dX3_removeTrack_61 rfl fX3_15 xi1 rfl rfl (by simp [q_up]) ?_
      refine q_iret dX3_removeTrack_64 rfl (fun _ => rfl) ?_
      exact ⟨_, rfl, Or.inr ⟨fun h => h, rfl, rfl⟩⟩
    · exact absurd h24 (by omega)
  | succ n ih =>
    intro i hi h0
    refine q_iload_n (n := 20) dX3_removeTrack_19 rfl rfl ?_
    refine q_aload_n (n := 21) dX3_removeTrack_20 rfl rfl ?_
    refine q_getI (kI := 2) (n := 24) (by decide) dX3_removeTrack_21 rfl fX3_18 xi1 rfl rfl ?_
    refine q_icmp_ge (n := 27) (t := 55) dX3_removeTrack_24 rfl (by decide) (fun h24 => ?_) (fun h24 => ?_)
    · exact absurd h24 (by omega)
    · skip
      refine q_aload_n (n := 28) dX3_removeTrack_27 rfl rfl ?_
      refine q_getR (n := 31) dX3_removeTrack_28 rfl fX3_34 xi1 rfl ?_
      refine q_iload_n (n := 32) dX3_removeTrack_31 rfl rfl ?_
      refine q_iaload (n := 33) dX3_removeTrack_32 rfl xi6 ⟨by omega, by omega⟩ ?_
      refine q_iload_n (n := 34) dX3_removeTrack_33 rfl rfl ?_
      refine q_icmp_eq (n := 37) (t := 46) dX3_removeTrack_34 rfl (by decide) (fun h34 => ?_) (fun h34 => ?_)
      · skip
        refine q_bipush (n := 48) dX3_removeTrack_46 rfl (k := ?_)
        refine q_iret dX3_removeTrack_48 rfl (fun _ => rfl) ?_
        exact ⟨_, rfl, Or.inl ⟨by first | exact Or.inl (Or.inl h34) | exact Or.inl (Or.inr h43), rfl, rfl⟩⟩
      · skip
        refine q_aload_n (n := 38) dX3_removeTrack_37 rfl rfl ?_
        refine q_iload_n (n := 39) dX3_removeTrack_38 rfl rfl ?_
        refine q_iload_n (n := 40) dX3_removeTrack_39 rfl rfl ?_
        refine q_v2D (n := 43) dX3_removeTrack_40 rfl (zX3_goesOut _ _ _ (by omega)) vX3_goesOut lX3_46 rfl rfl xi1 rfl ?_
        refine q_if_eq (n := 46) (t := 49) dX3_removeTrack_43 rfl (by decide) (fun h43 => ?_) (fun h43 => ?_)
        · have h43 := q_b0.mp h43
          refine q_iinc (n := 52) dX3_removeTrack_49 rfl (by decide) rfl (q_nwid ⟨by omega, by omega⟩) (q_s1_s (q_s1_1 rfl)) ?_
          refine q_go (t := 19) dX3_removeTrack_52 (by decide) ?_
          refine (ih _ (by omega) (by omega)).imp ?_
          rintro r σ2 ⟨v, e, h | h⟩
          · exact ⟨v, e, Or.inl ⟨Or.inr h.1, h.2⟩⟩
          · exact ⟨v, e, Or.inr ⟨fun z => z.elim (fun z => z.elim h34 h43) h.1, h.2⟩⟩
        · have h43 := q_b1.mp h43
          refine q_bipush (n := 48) dX3_removeTrack_46 rfl (k := ?_)
          refine q_iret dX3_removeTrack_48 rfl (fun _ => rfl) ?_
          exact ⟨_, rfl, Or.inl ⟨by first | exact Or.inl (Or.inl h34) | exact Or.inl (Or.inr h43), rfl, rfl⟩⟩
set_option maxRecDepth 100000 in
theorem zX3_removeTrack (σ : q_S) (h : 0 ≤ σ 1 1 ∧ σ 1 1 ≤ 8) (h4 : 0 ≤ σ 1 2 ∧ σ 1 2 ≤ 4) : q_Ct mX3_removeTrack shX [.inr (.inr 1)] σ (fun r σ' => ∃ v, r = some v ∧ ((σ 1 1 = 0 ∨ rmv (σ 6) (σ 7) (σ 1 1 - 1) (σ 1 2).toNat 0) ∧ v = .inl (-5) ∧ σ' = σ ∨ ¬ (σ 1 1 = 0 ∨ rmv (σ 6) (σ 7) (σ 1 1 - 1) (σ 1 2).toNat 0) ∧ v = .inl (σ 1 1 - 1) ∧ σ' = q_up σ 1 1 (σ 1 1 - 1))) := by
  refine q_ct 2 (by decide) rfl rfl ?_
  show q_WP mX3_removeTrack shX 0 [some (.inr (.inr 1)), none, none] [] σ _
  have hv := h4
  refine q_aload_n (n := 1) dX3_removeTrack_0 rfl rfl ?_
  refine q_getI (kI := 1) (n := 4) (by decide) dX3_removeTrack_1 rfl fX3_15 xi1 rfl rfl ?_
  refine q_if_ne (n := 7) (t := 10) dX3_removeTrack_4 rfl (by decide) (fun h4 => ?_) (fun h4 => ?_)
  · skip
    refine q_aload_n (n := 11) dX3_removeTrack_10 rfl rfl ?_
    refine q_getI (kI := 1) (n := 14) (by decide) dX3_removeTrack_11 rfl fX3_15 xi1 rfl rfl ?_
    refine q_iconst (n := 15) dX3_removeTrack_14 rfl (k := ?_)
    refine q_isubS (n := 16) dX3_removeTrack_15 rfl ⟨by omega, by omega⟩ ?_
    refine q_istore_n (n := 17) dX3_removeTrack_16 rfl (by decide) (q_s1_1 rfl) ?_
    refine q_iconst (n := 18) dX3_removeTrack_17 rfl (k := ?_)
    refine q_istore_n (n := 19) dX3_removeTrack_18 rfl (by decide) (q_s1_s (q_s1_1 rfl)) ?_
    refine (lpX3_rt σ hv.2 ⟨by omega, by omega⟩ (σ 1 2).toNat 0 (by omega) (by omega)).imp ?_
    rintro r σ2 ⟨v, e, h | h⟩
    · exact ⟨v, e, Or.inl ⟨Or.inr h.1, h.2⟩⟩
    · exact ⟨v, e, Or.inr ⟨fun z => z.elim h4 h.1, h.2⟩⟩
  · have h4_ := h4
    refine q_bipush (n := 9) dX3_removeTrack_7 rfl (k := ?_)
    refine q_iret dX3_removeTrack_9 rfl (fun _ => rfl) ?_
    exact ⟨_, rfl, Or.inl ⟨Or.inl h4_, rfl, rfl⟩⟩
set_option maxRecDepth 100000 in
theorem zX3_addTrack (ax ay bx by' cx cy : Int) (σ : q_S) (h : 0 ≤ σ 1 1 ∧ σ 1 1 ≤ 8) : q_Ct mX3_addTrack shX [.inr (.inr 1), .inl ax, .inl ay, .inl bx, .inl by', .inl cx, .inl cy] σ (fun r σ' => ∃ v, r = some v ∧ (¬ (((-20 ≤ ax ∧ ax ≤ 20) ∧ -20 ≤ ay ∧ ay ≤ 20) ∧ ((-20 ≤ bx ∧ bx ≤ 20) ∧ -20 ≤ by' ∧ by' ≤ 20) ∧ ((-20 ≤ cx ∧ cx ≤ 20) ∧ -20 ≤ cy ∧ cy ≤ 20)) ∧ v = .inl (-1) ∧ σ' = σ ∨ (((-20 ≤ ax ∧ ax ≤ 20) ∧ -20 ≤ ay ∧ ay ≤ 20) ∧ ((-20 ≤ bx ∧ bx ≤ 20) ∧ -20 ≤ by' ∧ by' ≤ 20) ∧ ((-20 ≤ cx ∧ cx ≤ 20) ∧ -20 ≤ cy ∧ cy ≤ 20)) ∧ ((ax = bx ∧ ay = by' ∨ ax = cx ∧ ay = cy) ∨ bx = cx ∧ by' = cy) ∧ v = .inl (-5) ∧ σ' = σ ∨ (((-20 ≤ ax ∧ ax ≤ 20) ∧ -20 ≤ ay ∧ ay ≤ 20) ∧ ((-20 ≤ bx ∧ bx ≤ 20) ∧ -20 ≤ by' ∧ by' ≤ 20) ∧ ((-20 ≤ cx ∧ cx ≤ 20) ∧ -20 ≤ cy ∧ cy ≤ 20)) ∧ ¬ ((ax = bx ∧ ay = by' ∨ ax = cx ∧ ay = cy) ∨ bx = cx ∧ by' = cy) ∧ σ 1 1 = 8 ∧ v = .inl (-3) ∧ σ' = σ ∨ (((-20 ≤ ax ∧ ax ≤ 20) ∧ -20 ≤ ay ∧ ay ≤ 20) ∧ ((-20 ≤ bx ∧ bx ≤ 20) ∧ -20 ≤ by' ∧ by' ≤ 20) ∧ ((-20 ≤ cx ∧ cx ≤ 20) ∧ -20 ≤ cy ∧ cy ≤ 20)) ∧ ¬ ((ax = bx ∧ ay = by' ∨ ax = cx ∧ ay = cy) ∨ bx = cx ∧ by' = cy) ∧ σ 1 1 < 8 ∧ v = .inl (σ 1 1) ∧ σ' = q_up (q_up (q_up (q_up (q_up (q_up (q_up (q_up σ 2 (6 * σ 1 1) ax) 2 (6 * σ 1 1 + 1) ay) 2 (6 * σ 1 1 + 2) bx) 2 (6 * σ 1 1 + 3) by') 2 (6 * σ 1 1 + 4) cx) 2 (6 * σ 1 1 + 5) cy) 3 (σ 1 1) 12) 1 1 (σ 1 1 + 1))) := by
  refine q_ct 1 (by decide) rfl rfl ?_
  show q_WP mX3_addTrack shX 0 [some (.inr (.inr 1)), some (.inl ax), some (.inl ay), some (.inl bx), some (.inl by'), some (.inl cx), some (.inl cy), none] [] σ _
  refine q_iload_n (n := 1) dX3_addTrack_0 rfl rfl ?_
  refine q_iload_n (n := 2) dX3_addTrack_1 rfl rfl ?_
  refine q_c2D (n := 5) dX3_addTrack_2 rfl (zX7_isPoint _ _ _) vX7_isPoint lX3_50 rfl rfl ?_
  refine q_if_eq (n := 8) (t := 27) dX3_addTrack_5 rfl (by decide) (fun h5 => ?_) (fun h5 => ?_)
  · have h5 := q_b0.mp h5
    refine q_iconst (n := 28) dX3_addTrack_27 rfl (k := ?_)
    refine q_iret dX3_addTrack_28 rfl (fun _ => rfl) ?_
    first
      | exact ⟨_, rfl, Or.inl ⟨by omega, rfl, rfl⟩⟩
      | exact ⟨_, rfl, Or.inr (Or.inl ⟨by omega, by omega, rfl, rfl⟩)⟩
      | exact ⟨_, rfl, Or.inr (Or.inr (Or.inl ⟨by omega, by omega, by omega, rfl, rfl⟩))⟩
      | exact ⟨_, rfl, Or.inr (Or.inr (Or.inr ⟨by omega, by omega, by omega, by congr 1; omega, rfl⟩))⟩
  · have h5 := q_b1.mp h5
    refine q_iload_n (n := 9) dX3_addTrack_8 rfl rfl ?_
    refine q_iload (n := 11) dX3_addTrack_9 rfl rfl ?_
    refine q_c2D (n := 14) dX3_addTrack_11 rfl (zX7_isPoint _ _ _) vX7_isPoint lX3_50 rfl rfl ?_
    refine q_if_eq (n := 17) (t := 27) dX3_addTrack_14 rfl (by decide) (fun h14 => ?_) (fun h14 => ?_)
    · have h14 := q_b0.mp h14
      refine q_iconst (n := 28) dX3_addTrack_27 rfl (k := ?_)
      refine q_iret dX3_addTrack_28 rfl (fun _ => rfl) ?_
      first
        | exact ⟨_, rfl, Or.inl ⟨by omega, rfl, rfl⟩⟩
        | exact ⟨_, rfl, Or.inr (Or.inl ⟨by omega, by omega, rfl, rfl⟩)⟩
        | exact ⟨_, rfl, Or.inr (Or.inr (Or.inl ⟨by omega, by omega, by omega, rfl, rfl⟩))⟩
        | exact ⟨_, rfl, Or.inr (Or.inr (Or.inr ⟨by omega, by omega, by omega, by congr 1; omega, rfl⟩))⟩
    · have h14 := q_b1.mp h14
      refine q_iload (n := 19) dX3_addTrack_17 rfl rfl ?_
      refine q_iload (n := 21) dX3_addTrack_19 rfl rfl ?_
      refine q_c2D (n := 24) dX3_addTrack_21 rfl (zX7_isPoint _ _ _) vX7_isPoint lX3_50 rfl rfl ?_
      refine q_if_ne (n := 27) (t := 29) dX3_addTrack_24 rfl (by decide) (fun h24 => ?_) (fun h24 => ?_)
      · have h24 := q_b1.mp h24
        refine q_iload_n (n := 30) dX3_addTrack_29 rfl rfl ?_
        refine q_iload_n (n := 31) dX3_addTrack_30 rfl rfl ?_
        refine q_icmp_ne (n := 34) (t := 40) dX3_addTrack_31 rfl (by decide) (fun h31 => ?_) (fun h31 => ?_)
        · skip
          refine q_iload_n (n := 41) dX3_addTrack_40 rfl rfl ?_
          refine q_iload (n := 43) dX3_addTrack_41 rfl rfl ?_
          refine q_icmp_ne (n := 46) (t := 52) dX3_addTrack_43 rfl (by decide) (fun h43 => ?_) (fun h43 => ?_)
          · skip
            refine q_iload_n (n := 53) dX3_addTrack_52 rfl rfl ?_
            refine q_iload (n := 55) dX3_addTrack_53 rfl rfl ?_
            refine q_icmp_ne (n := 58) (t := 68) dX3_addTrack_55 rfl (by decide) (fun h55 => ?_) (fun h55 => ?_)
            · skip
              refine q_aload_n (n := 69) dX3_addTrack_68 rfl rfl ?_
              refine q_getI (kI := 1) (n := 72) (by decide) dX3_addTrack_69 rfl fX3_15 xi1 rfl rfl ?_
              refine q_bipush (n := 74) dX3_addTrack_72 rfl (k := ?_)
              refine q_icmp_ne (n := 77) (t := 80) dX3_addTrack_74 rfl (by decide) (fun h74 => ?_) (fun h74 => ?_)
              · skip
                refine q_bipush (n := 82) dX3_addTrack_80 rfl (k := ?_)
                refine q_aload_n (n := 83) dX3_addTrack_82 rfl rfl ?_
                refine q_getI (kI := 1) (n := 86) (by decide) dX3_addTrack_83 rfl fX3_15 xi1 rfl rfl ?_
                refine q_imulS (n := 87) dX3_addTrack_86 rfl ⟨by omega, by omega⟩ ?_
                refine q_istore (n := 89) dX3_addTrack_87 rfl (by decide) (q_s1_s (q_s1_s (q_s1_s (q_s1_s (q_s1_s (q_s1_s (q_s1_1 rfl))))))) ?_
                refine q_aload_n (n := 90) dX3_addTrack_89 rfl rfl ?_
                refine q_getR (n := 93) dX3_addTrack_90 rfl fX3_21 xi1 rfl ?_
                refine q_iload (n := 95) dX3_addTrack_93 rfl rfl ?_
                refine q_iload_n (n := 96) dX3_addTrack_95 rfl rfl ?_
                refine q_iastore (n := 97) dX3_addTrack_96 rfl xi2 ⟨by omega, by omega⟩ ?_
                refine q_aload_n (n := 98) dX3_addTrack_97 rfl rfl ?_
                refine q_getR (n := 101) dX3_addTrack_98 rfl fX3_21 xi1 rfl ?_
                refine q_iload (n := 103) dX3_addTrack_101 rfl rfl ?_
                refine q_iconst (n := 104) dX3_addTrack_103 rfl (k := ?_)
                refine q_iaddS (n := 105) dX3_addTrack_104 rfl ⟨by omega, by omega⟩ ?_
                refine q_iload_n (n := 106) dX3_addTrack_105 rfl rfl ?_
                refine q_iastore (n := 107) dX3_addTrack_106 rfl xi2 ⟨by omega, by omega⟩ ?_
                refine q_aload_n (n := 108) dX3_addTrack_107 rfl rfl ?_
                refine q_getR (n := 111) dX3_addTrack_108 rfl fX3_21 xi1 rfl ?_
                refine q_iload (n := 113) dX3_addTrack_111 rfl rfl ?_
                refine q_iconst (n := 114) dX3_addTrack_113 rfl (k := ?_)
                refine q_iaddS (n := 115) dX3_addTrack_114 rfl ⟨by omega, by omega⟩ ?_
                refine q_iload_n (n := 116) dX3_addTrack_115 rfl rfl ?_
                refine q_iastore (n := 117) dX3_addTrack_116 rfl xi2 ⟨by omega, by omega⟩ ?_
                refine q_aload_n (n := 118) dX3_addTrack_117 rfl rfl ?_
                refine q_getR (n := 121) dX3_addTrack_118 rfl fX3_21 xi1 rfl ?_
                refine q_iload (n := 123) dX3_addTrack_121 rfl rfl ?_
                refine q_iconst (n := 124) dX3_addTrack_123 rfl (k := ?_)
                refine q_iaddS (n := 125) dX3_addTrack_124 rfl ⟨by omega, by omega⟩ ?_
                refine q_iload (n := 127) dX3_addTrack_125 rfl rfl ?_
                refine q_iastore (n := 128) dX3_addTrack_127 rfl xi2 ⟨by omega, by omega⟩ ?_
                refine q_aload_n (n := 129) dX3_addTrack_128 rfl rfl ?_
                refine q_getR (n := 132) dX3_addTrack_129 rfl fX3_21 xi1 rfl ?_
                refine q_iload (n := 134) dX3_addTrack_132 rfl rfl ?_
                refine q_iconst (n := 135) dX3_addTrack_134 rfl (k := ?_)
                refine q_iaddS (n := 136) dX3_addTrack_135 rfl ⟨by omega, by omega⟩ ?_
                refine q_iload (n := 138) dX3_addTrack_136 rfl rfl ?_
                refine q_iastore (n := 139) dX3_addTrack_138 rfl xi2 ⟨by omega, by omega⟩ ?_
                refine q_aload_n (n := 140) dX3_addTrack_139 rfl rfl ?_
                refine q_getR (n := 143) dX3_addTrack_140 rfl fX3_21 xi1 rfl ?_
                refine q_iload (n := 145) dX3_addTrack_143 rfl rfl ?_
                refine q_iconst (n := 146) dX3_addTrack_145 rfl (k := ?_)
                refine q_iaddS (n := 147) dX3_addTrack_146 rfl ⟨by omega, by omega⟩ ?_
                refine q_iload (n := 149) dX3_addTrack_147 rfl rfl ?_
                refine q_iastore (n := 150) dX3_addTrack_149 rfl xi2 ⟨by omega, by omega⟩ ?_
                refine q_aload_n (n := 151) dX3_addTrack_150 rfl rfl ?_
                refine q_getR (n := 154) dX3_addTrack_151 rfl fX3_25 xi1 rfl ?_
                refine q_aload_n (n := 155) dX3_addTrack_154 rfl rfl ?_
                refine q_getIE (σ 1 1) (kI := 1) (n := 158) (by decide) dX3_addTrack_155 rfl fX3_15 xi1 rfl rfl (by simp [q_up]) ?_
                refine q_bipush (n := 160) dX3_addTrack_158 rfl (k := ?_)
                refine q_iastore (n := 161) dX3_addTrack_160 rfl xi3 ⟨by omega, by omega⟩ ?_
                refine q_aload_n (n := 162) dX3_addTrack_161 rfl rfl ?_
                refine q_dup (n := 163) dX3_addTrack_162 rfl rfl ?_
                refine q_getIE (σ 1 1) (kI := 1) (n := 166) (by decide) dX3_addTrack_163 rfl fX3_15 xi1 rfl rfl (by simp [q_up]) ?_
                refine q_iconst (n := 167) dX3_addTrack_166 rfl (k := ?_)
                refine q_iaddS (n := 168) dX3_addTrack_167 rfl ⟨by omega, by omega⟩ ?_
                refine q_putI (kI := 1) (n := 171) dX3_addTrack_168 rfl pX3_15 xi1 rfl rfl ?_
                refine q_aload_n (n := 172) dX3_addTrack_171 rfl rfl ?_
                refine q_getIE (σ 1 1 + 1) (kI := 1) (n := 175) (by decide) dX3_addTrack_172 rfl fX3_15 xi1 rfl rfl (by simp [q_up]) ?_
                refine q_iconst (n := 176) dX3_addTrack_175 rfl (k := ?_)
                refine q_isubS (n := 177) dX3_addTrack_176 rfl ⟨by omega, by omega⟩ ?_
                refine q_iret dX3_addTrack_177 rfl (fun _ => rfl) ?_
                first
                  | exact ⟨_, rfl, Or.inl ⟨by omega, rfl, rfl⟩⟩
                  | exact ⟨_, rfl, Or.inr (Or.inl ⟨by omega, by omega, rfl, rfl⟩)⟩
                  | exact ⟨_, rfl, Or.inr (Or.inr (Or.inl ⟨by omega, by omega, by omega, rfl, rfl⟩))⟩
                  | exact ⟨_, rfl, Or.inr (Or.inr (Or.inr ⟨by omega, by omega, by omega, by congr 1; omega, rfl⟩))⟩
              · skip
                refine q_bipush (n := 79) dX3_addTrack_77 rfl (k := ?_)
                refine q_iret dX3_addTrack_79 rfl (fun _ => rfl) ?_
                first
                  | exact ⟨_, rfl, Or.inl ⟨by omega, rfl, rfl⟩⟩
                  | exact ⟨_, rfl, Or.inr (Or.inl ⟨by omega, by omega, rfl, rfl⟩)⟩
                  | exact ⟨_, rfl, Or.inr (Or.inr (Or.inl ⟨by omega, by omega, by omega, rfl, rfl⟩))⟩
                  | exact ⟨_, rfl, Or.inr (Or.inr (Or.inr ⟨by omega, by omega, by omega, by congr 1; omega, rfl⟩))⟩
            · skip
              refine q_iload (n := 60) dX3_addTrack_58 rfl rfl ?_
              refine q_iload (n := 62) dX3_addTrack_60 rfl rfl ?_
              refine q_icmp_ne (n := 65) (t := 68) dX3_addTrack_62 rfl (by decide) (fun h62 => ?_) (fun h62 => ?_)
              · skip
                refine q_aload_n (n := 69) dX3_addTrack_68 rfl rfl ?_
                refine q_getI (kI := 1) (n := 72) (by decide) dX3_addTrack_69 rfl fX3_15 xi1 rfl rfl ?_
                refine q_bipush (n := 74) dX3_addTrack_72 rfl (k := ?_)
                refine q_icmp_ne (n := 77) (t := 80) dX3_addTrack_74 rfl (by decide) (fun h74 => ?_) (fun h74 => ?_)
                · skip
                  refine q_bipush (n := 82) dX3_addTrack_80 rfl (k := ?_)
                  refine q_aload_n (n := 83) dX3_addTrack_82 rfl rfl ?_
                  refine q_getI (kI := 1) (n := 86) (by decide) dX3_addTrack_83 rfl fX3_15 xi1 rfl rfl ?_
                  refine q_imulS (n := 87) dX3_addTrack_86 rfl ⟨by omega, by omega⟩ ?_
                  refine q_istore (n := 89) dX3_addTrack_87 rfl (by decide) (q_s1_s (q_s1_s (q_s1_s (q_s1_s (q_s1_s (q_s1_s (q_s1_1 rfl))))))) ?_
                  refine q_aload_n (n := 90) dX3_addTrack_89 rfl rfl ?_
                  refine q_getR (n := 93) dX3_addTrack_90 rfl fX3_21 xi1 rfl ?_
                  refine q_iload (n := 95) dX3_addTrack_93 rfl rfl ?_
                  refine q_iload_n (n := 96) dX3_addTrack_95 rfl rfl ?_
                  refine q_iastore (n := 97) dX3_addTrack_96 rfl xi2 ⟨by omega, by omega⟩ ?_
                  refine q_aload_n (n := 98) dX3_addTrack_97 rfl rfl ?_
                  refine q_getR (n := 101) dX3_addTrack_98 rfl fX3_21 xi1 rfl ?_
                  refine q_iload (n := 103) dX3_addTrack_101 rfl rfl ?_
                  refine q_iconst (n := 104) dX3_addTrack_103 rfl (k := ?_)
                  refine q_iaddS (n := 105) dX3_addTrack_104 rfl ⟨by omega, by omega⟩ ?_
                  refine q_iload_n (n := 106) dX3_addTrack_105 rfl rfl ?_
                  refine q_iastore (n := 107) dX3_addTrack_106 rfl xi2 ⟨by omega, by omega⟩ ?_
                  refine q_aload_n (n := 108) dX3_addTrack_107 rfl rfl ?_
                  refine q_getR (n := 111) dX3_addTrack_108 rfl fX3_21 xi1 rfl ?_
                  refine q_iload (n := 113) dX3_addTrack_111 rfl rfl ?_
                  refine q_iconst (n := 114) dX3_addTrack_113 rfl (k := ?_)
                  refine q_iaddS (n := 115) dX3_addTrack_114 rfl ⟨by omega, by omega⟩ ?_
                  refine q_iload_n (n := 116) dX3_addTrack_115 rfl rfl ?_
                  refine q_iastore (n := 117) dX3_addTrack_116 rfl xi2 ⟨by omega, by omega⟩ ?_
                  refine q_aload_n (n := 118) dX3_addTrack_117 rfl rfl ?_
                  refine q_getR (n := 121) dX3_addTrack_118 rfl fX3_21 xi1 rfl ?_
                  refine q_iload (n := 123) dX3_addTrack_121 rfl rfl ?_
                  refine q_iconst (n := 124) dX3_addTrack_123 rfl (k := ?_)
                  refine q_iaddS (n := 125) dX3_addTrack_124 rfl ⟨by omega, by omega⟩ ?_
                  refine q_iload (n := 127) dX3_addTrack_125 rfl rfl ?_
                  refine q_iastore (n := 128) dX3_addTrack_127 rfl xi2 ⟨by omega, by omega⟩ ?_
                  refine q_aload_n (n := 129) dX3_addTrack_128 rfl rfl ?_
                  refine q_getR (n := 132) dX3_addTrack_129 rfl fX3_21 xi1 rfl ?_
                  refine q_iload (n := 134) dX3_addTrack_132 rfl rfl ?_
                  refine q_iconst (n := 135) dX3_addTrack_134 rfl (k := ?_)
                  refine q_iaddS (n := 136) dX3_addTrack_135 rfl ⟨by omega, by omega⟩ ?_
                  refine q_iload (n := 138) dX3_addTrack_136 rfl rfl ?_
                  refine q_iastore (n := 139) dX3_addTrack_138 rfl xi2 ⟨by omega, by omega⟩ ?_
                  refine q_aload_n (n := 140) dX3_addTrack_139 rfl rfl ?_
                  refine q_getR (n := 143) dX3_addTrack_140 rfl fX3_21 xi1 rfl ?_
                  refine q_iload (n := 145) dX3_addTrack_143 rfl rfl ?_
                  refine q_iconst (n := 146) dX3_addTrack_145 rfl (k := ?_)
                  refine q_iaddS (n := 147) dX3_addTrack_146 rfl ⟨by omega, by omega⟩ ?_
                  refine q_iload (n := 149) dX3_addTrack_147 rfl rfl ?_
                  refine q_iastore (n := 150) dX3_addTrack_149 rfl xi2 ⟨by omega, by omega⟩ ?_
                  refine q_aload_n (n := 151) dX3_addTrack_150 rfl rfl ?_
                  refine q_getR (n := 154) dX3_addTrack_151 rfl fX3_25 xi1 rfl ?_
                  refine q_aload_n (n := 155) dX3_addTrack_154 rfl rfl ?_
                  refine q_getIE (σ 1 1) (kI := 1) (n := 158) (by decide) dX3_addTrack_155 rfl fX3_15 xi1 rfl rfl (by simp [q_up]) ?_
                  refine q_bipush (n := 160) dX3_addTrack_158 rfl (k := ?_)
                  refine q_iastore (n := 161) dX3_addTrack_160 rfl xi3 ⟨by omega, by omega⟩ ?_
                  refine q_aload_n (n := 162) dX3_addTrack_161 rfl rfl ?_
                  refine q_dup (n := 163) dX3_addTrack_162 rfl rfl ?_
                  refine q_getIE (σ 1 1) (kI := 1) (n := 166) (by decide) dX3_addTrack_163 rfl fX3_15 xi1 rfl rfl (by simp [q_up]) ?_
                  refine q_iconst (n := 167) dX3_addTrack_166 rfl (k := ?_)
                  refine q_iaddS (n := 168) dX3_addTrack_167 rfl ⟨by omega, by omega⟩ ?_
                  refine q_putI (kI := 1) (n := 171) dX3_addTrack_168 rfl pX3_15 xi1 rfl rfl ?_
                  refine q_aload_n (n := 172) dX3_addTrack_171 rfl rfl ?_
                  refine q_getIE (σ 1 1 + 1) (kI := 1) (n := 175) (by decide) dX3_addTrack_172 rfl fX3_15 xi1 rfl rfl (by simp [q_up]) ?_
                  refine q_iconst (n := 176) dX3_addTrack_175 rfl (k := ?_)
                  refine q_isubS (n := 177) dX3_addTrack_176 rfl ⟨by omega, by omega⟩ ?_
                  refine q_iret dX3_addTrack_177 rfl (fun _ => rfl) ?_
                  first
                    | exact ⟨_, rfl, Or.inl ⟨by omega, rfl, rfl⟩⟩
                    | exact ⟨_, rfl, Or.inr (Or.inl ⟨by omega, by omega, rfl, rfl⟩)⟩
                    | exact ⟨_, rfl, Or.inr (Or.inr (Or.inl ⟨by omega, by omega, by omega, rfl, rfl⟩))⟩
                    | exact ⟨_, rfl, Or.inr (Or.inr (Or.inr ⟨by omega, by omega, by omega, by congr 1; omega, rfl⟩))⟩
                · skip
                  refine q_bipush (n := 79) dX3_addTrack_77 rfl (k := ?_)
                  refine q_iret dX3_addTrack_79 rfl (fun _ => rfl) ?_
                  first
                    | exact ⟨_, rfl, Or.inl ⟨by omega, rfl, rfl⟩⟩
                    | exact ⟨_, rfl, Or.inr (Or.inl ⟨by omega, by omega, rfl, rfl⟩)⟩
                    | exact ⟨_, rfl, Or.inr (Or.inr (Or.inl ⟨by omega, by omega, by omega, rfl, rfl⟩))⟩
                    | exact ⟨_, rfl, Or.inr (Or.inr (Or.inr ⟨by omega, by omega, by omega, by congr 1; omega, rfl⟩))⟩
              · skip
                refine q_bipush (n := 67) dX3_addTrack_65 rfl (k := ?_)
                refine q_iret dX3_addTrack_67 rfl (fun _ => rfl) ?_
                first
                  | exact ⟨_, rfl, Or.inl ⟨by omega, rfl, rfl⟩⟩
                  | exact ⟨_, rfl, Or.inr (Or.inl ⟨by omega, by omega, rfl, rfl⟩)⟩
                  | exact ⟨_, rfl, Or.inr (Or.inr (Or.inl ⟨by omega, by omega, by omega, rfl, rfl⟩))⟩
                  | exact ⟨_, rfl, Or.inr (Or.inr (Or.inr ⟨by omega, by omega, by omega, by congr 1; omega, rfl⟩))⟩
          · skip
            refine q_iload_n (n := 47) dX3_addTrack_46 rfl rfl ?_
            refine q_iload (n := 49) dX3_addTrack_47 rfl rfl ?_
            refine q_icmp_eq (n := 52) (t := 65) dX3_addTrack_49 rfl (by decide) (fun h49 => ?_) (fun h49 => ?_)
            · skip
              refine q_bipush (n := 67) dX3_addTrack_65 rfl (k := ?_)
              refine q_iret dX3_addTrack_67 rfl (fun _ => rfl) ?_
              first
                | exact ⟨_, rfl, Or.inl ⟨by omega, rfl, rfl⟩⟩
                | exact ⟨_, rfl, Or.inr (Or.inl ⟨by omega, by omega, rfl, rfl⟩)⟩
                | exact ⟨_, rfl, Or.inr (Or.inr (Or.inl ⟨by omega, by omega, by omega, rfl, rfl⟩))⟩
                | exact ⟨_, rfl, Or.inr (Or.inr (Or.inr ⟨by omega, by omega, by omega, by congr 1; omega, rfl⟩))⟩
            · skip
              refine q_iload_n (n := 53) dX3_addTrack_52 rfl rfl ?_
              refine q_iload (n := 55) dX3_addTrack_53 rfl rfl ?_
              refine q_icmp_ne (n := 58) (t := 68) dX3_addTrack_55 rfl (by decide) (fun h55 => ?_) (fun h55 => ?_)
              · skip
                refine q_aload_n (n := 69) dX3_addTrack_68 rfl rfl ?_
                refine q_getI (kI := 1) (n := 72) (by decide) dX3_addTrack_69 rfl fX3_15 xi1 rfl rfl ?_
                refine q_bipush (n := 74) dX3_addTrack_72 rfl (k := ?_)
                refine q_icmp_ne (n := 77) (t := 80) dX3_addTrack_74 rfl (by decide) (fun h74 => ?_) (fun h74 => ?_)
                · skip
                  refine q_bipush (n := 82) dX3_addTrack_80 rfl (k := ?_)
                  refine q_aload_n (n := 83) dX3_addTrack_82 rfl rfl ?_
                  refine q_getI (kI := 1) (n := 86) (by decide) dX3_addTrack_83 rfl fX3_15 xi1 rfl rfl ?_
                  refine q_imulS (n := 87) dX3_addTrack_86 rfl ⟨by omega, by omega⟩ ?_
                  refine q_istore (n := 89) dX3_addTrack_87 rfl (by decide) (q_s1_s (q_s1_s (q_s1_s (q_s1_s (q_s1_s (q_s1_s (q_s1_1 rfl))))))) ?_
                  refine q_aload_n (n := 90) dX3_addTrack_89 rfl rfl ?_
                  refine q_getR (n := 93) dX3_addTrack_90 rfl fX3_21 xi1 rfl ?_
                  refine q_iload (n := 95) dX3_addTrack_93 rfl rfl ?_
                  refine q_iload_n (n := 96) dX3_addTrack_95 rfl rfl ?_
                  refine q_iastore (n := 97) dX3_addTrack_96 rfl xi2 ⟨by omega, by omega⟩ ?_
                  refine q_aload_n (n := 98) dX3_addTrack_97 rfl rfl ?_
                  refine q_getR (n := 101) dX3_addTrack_98 rfl fX3_21 xi1 rfl ?_
                  refine q_iload (n := 103) dX3_addTrack_101 rfl rfl ?_
                  refine q_iconst (n := 104) dX3_addTrack_103 rfl (k := ?_)
                  refine q_iaddS (n := 105) dX3_addTrack_104 rfl ⟨by omega, by omega⟩ ?_
                  refine q_iload_n (n := 106) dX3_addTrack_105 rfl rfl ?_
                  refine q_iastore (n := 107) dX3_addTrack_106 rfl xi2 ⟨by omega, by omega⟩ ?_
                  refine q_aload_n (n := 108) dX3_addTrack_107 rfl rfl ?_
                  refine q_getR (n := 111) dX3_addTrack_108 rfl fX3_21 xi1 rfl ?_
                  refine q_iload (n := 113) dX3_addTrack_111 rfl rfl ?_
                  refine q_iconst (n := 114) dX3_addTrack_113 rfl (k := ?_)
                  refine q_iaddS (n := 115) dX3_addTrack_114 rfl ⟨by omega, by omega⟩ ?_
                  refine q_iload_n (n := 116) dX3_addTrack_115 rfl rfl ?_
                  refine q_iastore (n := 117) dX3_addTrack_116 rfl xi2 ⟨by omega, by omega⟩ ?_
                  refine q_aload_n (n := 118) dX3_addTrack_117 rfl rfl ?_
                  refine q_getR (n := 121) dX3_addTrack_118 rfl fX3_21 xi1 rfl ?_
                  refine q_iload (n := 123) dX3_addTrack_121 rfl rfl ?_
                  refine q_iconst (n := 124) dX3_addTrack_123 rfl (k := ?_)
                  refine q_iaddS (n := 125) dX3_addTrack_124 rfl ⟨by omega, by omega⟩ ?_
                  refine q_iload (n := 127) dX3_addTrack_125 rfl rfl ?_
                  refine q_iastore (n := 128) dX3_addTrack_127 rfl xi2 ⟨by omega, by omega⟩ ?_
                  refine q_aload_n (n := 129) dX3_addTrack_128 rfl rfl ?_
                  refine q_getR (n := 132) dX3_addTrack_129 rfl fX3_21 xi1 rfl ?_
                  refine q_iload (n := 134) dX3_addTrack_132 rfl rfl ?_
                  refine q_iconst (n := 135) dX3_addTrack_134 rfl (k := ?_)
                  refine q_iaddS (n := 136) dX3_addTrack_135 rfl ⟨by omega, by omega⟩ ?_
                  refine q_iload (n := 138) dX3_addTrack_136 rfl rfl ?_
                  refine q_iastore (n := 139) dX3_addTrack_138 rfl xi2 ⟨by omega, by omega⟩ ?_
                  refine q_aload_n (n := 140) dX3_addTrack_139 rfl rfl ?_
                  refine q_getR (n := 143) dX3_addTrack_140 rfl fX3_21 xi1 rfl ?_
                  refine q_iload (n := 145) dX3_addTrack_143 rfl rfl ?_
                  refine q_iconst (n := 146) dX3_addTrack_145 rfl (k := ?_)
                  refine q_iaddS (n := 147) dX3_addTrack_146 rfl ⟨by omega, by omega⟩ ?_
                  refine q_iload (n := 149) dX3_addTrack_147 rfl rfl ?_
                  refine q_iastore (n := 150) dX3_addTrack_149 rfl xi2 ⟨by omega, by omega⟩ ?_
                  refine q_aload_n (n := 151) dX3_addTrack_150 rfl rfl ?_
                  refine q_getR (n := 154) dX3_addTrack_151 rfl fX3_25 xi1 rfl ?_
                  refine q_aload_n (n := 155) dX3_addTrack_154 rfl rfl ?_
                  refine q_getIE (σ 1 1) (kI := 1) (n := 158) (by decide) dX3_addTrack_155 rfl fX3_15 xi1 rfl rfl (by simp [q_up]) ?_
                  refine q_bipush (n := 160) dX3_addTrack_158 rfl (k := ?_)
                  refine q_iastore (n := 161) dX3_addTrack_160 rfl xi3 ⟨by omega, by omega⟩ ?_
                  refine q_aload_n (n := 162) dX3_addTrack_161 rfl rfl ?_
                  refine q_dup (n := 163) dX3_addTrack_162 rfl rfl ?_
                  refine q_getIE (σ 1 1) (kI := 1) (n := 166) (by decide) dX3_addTrack_163 rfl fX3_15 xi1 rfl rfl (by simp [q_up]) ?_
                  refine q_iconst (n := 167) dX3_addTrack_166 rfl (k := ?_)
                  refine q_iaddS (n := 168) dX3_addTrack_167 rfl ⟨by omega, by omega⟩ ?_
                  refine q_putI (kI := 1) (n := 171) dX3_addTrack_168 rfl pX3_15 xi1 rfl rfl ?_
                  refine q_aload_n (n := 172) dX3_addTrack_171 rfl rfl ?_
                  refine q_getIE (σ 1 1 + 1) (kI := 1) (n := 175) (by decide) dX3_addTrack_172 rfl fX3_15 xi1 rfl rfl (by simp [q_up]) ?_
                  refine q_iconst (n := 176) dX3_addTrack_175 rfl (k := ?_)
                  refine q_isubS (n := 177) dX3_addTrack_176 rfl ⟨by omega, by omega⟩ ?_
                  refine q_iret dX3_addTrack_177 rfl (fun _ => rfl) ?_
                  first
                    | exact ⟨_, rfl, Or.inl ⟨by omega, rfl, rfl⟩⟩
                    | exact ⟨_, rfl, Or.inr (Or.inl ⟨by omega, by omega, rfl, rfl⟩)⟩
                    | exact ⟨_, rfl, Or.inr (Or.inr (Or.inl ⟨by omega, by omega, by omega, rfl, rfl⟩))⟩
                    | exact ⟨_, rfl, Or.inr (Or.inr (Or.inr ⟨by omega, by omega, by omega, by congr 1; omega, rfl⟩))⟩
                · skip
                  refine q_bipush (n := 79) dX3_addTrack_77 rfl (k := ?_)
                  refine q_iret dX3_addTrack_79 rfl (fun _ => rfl) ?_
                  first
                    | exact ⟨_, rfl, Or.inl ⟨by omega, rfl, rfl⟩⟩
                    | exact ⟨_, rfl, Or.inr (Or.inl ⟨by omega, by omega, rfl, rfl⟩)⟩
                    | exact ⟨_, rfl, Or.inr (Or.inr (Or.inl ⟨by omega, by omega, by omega, rfl, rfl⟩))⟩
                    | exact ⟨_, rfl, Or.inr (Or.inr (Or.inr ⟨by omega, by omega, by omega, by congr 1; omega, rfl⟩))⟩
              · skip
                refine q_iload (n := 60) dX3_addTrack_58 rfl rfl ?_
                refine q_iload (n := 62) dX3_addTrack_60 rfl rfl ?_
                refine q_icmp_ne (n := 65) (t := 68) dX3_addTrack_62 rfl (by decide) (fun h62 => ?_) (fun h62 => ?_)
                · skip
                  refine q_aload_n (n := 69) dX3_addTrack_68 rfl rfl ?_
                  refine q_getI (kI := 1) (n := 72) (by decide) dX3_addTrack_69 rfl fX3_15 xi1 rfl rfl ?_
                  refine q_bipush (n := 74) dX3_addTrack_72 rfl (k := ?_)
                  refine q_icmp_ne (n := 77) (t := 80) dX3_addTrack_74 rfl (by decide) (fun h74 => ?_) (fun h74 => ?_)
                  · skip
                    refine q_bipush (n := 82) dX3_addTrack_80 rfl (k := ?_)
                    refine q_aload_n (n := 83) dX3_addTrack_82 rfl rfl ?_
                    refine q_getI (kI := 1) (n := 86) (by decide) dX3_addTrack_83 rfl fX3_15 xi1 rfl rfl ?_
                    refine q_imulS (n := 87) dX3_addTrack_86 rfl ⟨by omega, by omega⟩ ?_
                    refine q_istore (n := 89) dX3_addTrack_87 rfl (by decide) (q_s1_s (q_s1_s (q_s1_s (q_s1_s (q_s1_s (q_s1_s (q_s1_1 rfl))))))) ?_
                    refine q_aload_n (n := 90) dX3_addTrack_89 rfl rfl ?_
                    refine q_getR (n := 93) dX3_addTrack_90 rfl fX3_21 xi1 rfl ?_
                    refine q_iload (n := 95) dX3_addTrack_93 rfl rfl ?_
                    refine q_iload_n (n := 96) dX3_addTrack_95 rfl rfl ?_
                    refine q_iastore (n := 97) dX3_addTrack_96 rfl xi2 ⟨by omega, by omega⟩ ?_
                    refine q_aload_n (n := 98) dX3_addTrack_97 rfl rfl ?_
                    refine q_getR (n := 101) dX3_addTrack_98 rfl fX3_21 xi1 rfl ?_
                    refine q_iload (n := 103) dX3_addTrack_101 rfl rfl ?_
                    refine q_iconst (n := 104) dX3_addTrack_103 rfl (k := ?_)
                    refine q_iaddS (n := 105) dX3_addTrack_104 rfl ⟨by omega, by omega⟩ ?_
                    refine q_iload_n (n := 106) dX3_addTrack_105 rfl rfl ?_
                    refine q_iastore (n := 107) dX3_addTrack_106 rfl xi2 ⟨by omega, by omega⟩ ?_
                    refine q_aload_n (n := 108) dX3_addTrack_107 rfl rfl ?_
                    refine q_getR (n := 111) dX3_addTrack_108 rfl fX3_21 xi1 rfl ?_
                    refine q_iload (n := 113) dX3_addTrack_111 rfl rfl ?_
                    refine q_iconst (n := 114) dX3_addTrack_113 rfl (k := ?_)
                    refine q_iaddS (n := 115) dX3_addTrack_114 rfl ⟨by omega, by omega⟩ ?_
                    refine q_iload_n (n := 116) dX3_addTrack_115 rfl rfl ?_
                    refine q_iastore (n := 117) dX3_addTrack_116 rfl xi2 ⟨by omega, by omega⟩ ?_
                    refine q_aload_n (n := 118) dX3_addTrack_117 rfl rfl ?_
                    refine q_getR (n := 121) dX3_addTrack_118 rfl fX3_21 xi1 rfl ?_
                    refine q_iload (n := 123) dX3_addTrack_121 rfl rfl ?_
                    refine q_iconst (n := 124) dX3_addTrack_123 rfl (k := ?_)
                    refine q_iaddS (n := 125) dX3_addTrack_124 rfl ⟨by omega, by omega⟩ ?_
                    refine q_iload (n := 127) dX3_addTrack_125 rfl rfl ?_
                    refine q_iastore (n := 128) dX3_addTrack_127 rfl xi2 ⟨by omega, by omega⟩ ?_
                    refine q_aload_n (n := 129) dX3_addTrack_128 rfl rfl ?_
                    refine q_getR (n := 132) dX3_addTrack_129 rfl fX3_21 xi1 rfl ?_
                    refine q_iload (n := 134) dX3_addTrack_132 rfl rfl ?_
                    refine q_iconst (n := 135) dX3_addTrack_134 rfl (k := ?_)
                    refine q_iaddS (n := 136) dX3_addTrack_135 rfl ⟨by omega, by omega⟩ ?_
                    refine q_iload (n := 138) dX3_addTrack_136 rfl rfl ?_
                    refine q_iastore (n := 139) dX3_addTrack_138 rfl xi2 ⟨by omega, by omega⟩ ?_
                    refine q_aload_n (n := 140) dX3_addTrack_139 rfl rfl ?_
                    refine q_getR (n := 143) dX3_addTrack_140 rfl fX3_21 xi1 rfl ?_
                    refine q_iload (n := 145) dX3_addTrack_143 rfl rfl ?_
                    refine q_iconst (n := 146) dX3_addTrack_145 rfl (k := ?_)
                    refine q_iaddS (n := 147) dX3_addTrack_146 rfl ⟨by omega, by omega⟩ ?_
                    refine q_iload (n := 149) dX3_addTrack_147 rfl rfl ?_
                    refine q_iastore (n := 150) dX3_addTrack_149 rfl xi2 ⟨by omega, by omega⟩ ?_
                    refine q_aload_n (n := 151) dX3_addTrack_150 rfl rfl ?_
                    refine q_getR (n := 154) dX3_addTrack_151 rfl fX3_25 xi1 rfl ?_
                    refine q_aload_n (n := 155) dX3_addTrack_154 rfl rfl ?_
                    refine q_getIE (σ 1 1) (kI := 1) (n := 158) (by decide) dX3_addTrack_155 rfl fX3_15 xi1 rfl rfl (by simp [q_up]) ?_
                    refine q_bipush (n := 160) dX3_addTrack_158 rfl (k := ?_)
                    refine q_iastore (n := 161) dX3_addTrack_160 rfl xi3 ⟨by omega, by omega⟩ ?_
                    refine q_aload_n (n := 162) dX3_addTrack_161 rfl rfl ?_
                    refine q_dup (n := 163) dX3_addTrack_162 rfl rfl ?_
                    refine q_getIE (σ 1 1) (kI := 1) (n := 166) (by decide) dX3_addTrack_163 rfl fX3_15 xi1 rfl rfl (by simp [q_up]) ?_
                    refine q_iconst (n := 167) dX3_addTrack_166 rfl (k := ?_)
                    refine q_iaddS (n := 168) dX3_addTrack_167 rfl ⟨by omega, by omega⟩ ?_
                    refine q_putI (kI := 1) (n := 171) dX3_addTrack_168 rfl pX3_15 xi1 rfl rfl ?_
                    refine q_aload_n (n := 172) dX3_addTrack_171 rfl rfl ?_
                    refine q_getIE (σ 1 1 + 1) (kI := 1) (n := 175) (by decide) dX3_addTrack_172 rfl fX3_15 xi1 rfl rfl (by simp [q_up]) ?_
                    refine q_iconst (n := 176) dX3_addTrack_175 rfl (k := ?_)
                    refine q_isubS (n := 177) dX3_addTrack_176 rfl ⟨by omega, by omega⟩ ?_
                    refine q_iret dX3_addTrack_177 rfl (fun _ => rfl) ?_
                    first
                      | exact ⟨_, rfl, Or.inl ⟨by omega, rfl, rfl⟩⟩
                      | exact ⟨_, rfl, Or.inr (Or.inl ⟨by omega, by omega, rfl, rfl⟩)⟩
                      | exact ⟨_, rfl, Or.inr (Or.inr (Or.inl ⟨by omega, by omega, by omega, rfl, rfl⟩))⟩
                      | exact ⟨_, rfl, Or.inr (Or.inr (Or.inr ⟨by omega, by omega, by omega, by congr 1; omega, rfl⟩))⟩
                  · skip
                    refine q_bipush (n := 79) dX3_addTrack_77 rfl (k := ?_)
                    refine q_iret dX3_addTrack_79 rfl (fun _ => rfl) ?_
                    first
                      | exact ⟨_, rfl, Or.inl ⟨by omega, rfl, rfl⟩⟩
                      | exact ⟨_, rfl, Or.inr (Or.inl ⟨by omega, by omega, rfl, rfl⟩)⟩
                      | exact ⟨_, rfl, Or.inr (Or.inr (Or.inl ⟨by omega, by omega, by omega, rfl, rfl⟩))⟩
                      | exact ⟨_, rfl, Or.inr (Or.inr (Or.inr ⟨by omega, by omega, by omega, by congr 1; omega, rfl⟩))⟩
                · skip
                  refine q_bipush (n := 67) dX3_addTrack_65 rfl (k := ?_)
                  refine q_iret dX3_addTrack_67 rfl (fun _ => rfl) ?_
                  first
                    | exact ⟨_, rfl, Or.inl ⟨by omega, rfl, rfl⟩⟩
                    | exact ⟨_, rfl, Or.inr (Or.inl ⟨by omega, by omega, rfl, rfl⟩)⟩
                    | exact ⟨_, rfl, Or.inr (Or.inr (Or.inl ⟨by omega, by omega, by omega, rfl, rfl⟩))⟩
                    | exact ⟨_, rfl, Or.inr (Or.inr (Or.inr ⟨by omega, by omega, by omega, by congr 1; omega, rfl⟩))⟩
        · skip
          refine q_iload_n (n := 35) dX3_addTrack_34 rfl rfl ?_
          refine q_iload (n := 37) dX3_addTrack_35 rfl rfl ?_
          refine q_icmp_eq (n := 40) (t := 65) dX3_addTrack_37 rfl (by decide) (fun h37 => ?_) (fun h37 => ?_)
          · skip
            refine q_bipush (n := 67) dX3_addTrack_65 rfl (k := ?_)
            refine q_iret dX3_addTrack_67 rfl (fun _ => rfl) ?_
            first
              | exact ⟨_, rfl, Or.inl ⟨by omega, rfl, rfl⟩⟩
              | exact ⟨_, rfl, Or.inr (Or.inl ⟨by omega, by omega, rfl, rfl⟩)⟩
              | exact ⟨_, rfl, Or.inr (Or.inr (Or.inl ⟨by omega, by omega, by omega, rfl, rfl⟩))⟩
              | exact ⟨_, rfl, Or.inr (Or.inr (Or.inr ⟨by omega, by omega, by omega, by congr 1; omega, rfl⟩))⟩
          · skip
            refine q_iload_n (n := 41) dX3_addTrack_40 rfl rfl ?_
            refine q_iload (n := 43) dX3_addTrack_41 rfl rfl ?_
            refine q_icmp_ne (n := 46) (t := 52) dX3_addTrack_43 rfl (by decide) (fun h43 => ?_) (fun h43 => ?_)
            · skip
              refine q_iload_n (n := 53) dX3_addTrack_52 rfl rfl ?_
              refine q_iload (n := 55) dX3_addTrack_53 rfl rfl ?_
              refine q_icmp_ne (n := 58) (t := 68) dX3_addTrack_55 rfl (by decide) (fun h55 => ?_) (fun h55 => ?_)
              · skip
                refine q_aload_n (n := 69) dX3_addTrack_68 rfl rfl ?_
                refine q_getI (kI := 1) (n := 72) (by decide) dX3_addTrack_69 rfl fX3_15 xi1 rfl rfl ?_
                refine q_bipush (n := 74) dX3_addTrack_72 rfl (k := ?_)
                refine q_icmp_ne (n := 77) (t := 80) dX3_addTrack_74 rfl (by decide) (fun h74 => ?_) (fun h74 => ?_)
                · skip
                  refine q_bipush (n := 82) dX3_addTrack_80 rfl (k := ?_)
                  refine q_aload_n (n := 83) dX3_addTrack_82 rfl rfl ?_
                  refine q_getI (kI := 1) (n := 86) (by decide) dX3_addTrack_83 rfl fX3_15 xi1 rfl rfl ?_
                  refine q_imulS (n := 87) dX3_addTrack_86 rfl ⟨by omega, by omega⟩ ?_
                  refine q_istore (n := 89) dX3_addTrack_87 rfl (by decide) (q_s1_s (q_s1_s (q_s1_s (q_s1_s (q_s1_s (q_s1_s (q_s1_1 rfl))))))) ?_
                  refine q_aload_n (n := 90) dX3_addTrack_89 rfl rfl ?_
                  refine q_getR (n := 93) dX3_addTrack_90 rfl fX3_21 xi1 rfl ?_
                  refine q_iload (n := 95) dX3_addTrack_93 rfl rfl ?_
                  refine q_iload_n (n := 96) dX3_addTrack_95 rfl rfl ?_
                  refine q_iastore (n := 97) dX3_addTrack_96 rfl xi2 ⟨by omega, by omega⟩ ?_
                  refine q_aload_n (n := 98) dX3_addTrack_97 rfl rfl ?_
                  refine q_getR (n := 101) dX3_addTrack_98 rfl fX3_21 xi1 rfl ?_
                  refine q_iload (n := 103) dX3_addTrack_101 rfl rfl ?_
                  refine q_iconst (n := 104) dX3_addTrack_103 rfl (k := ?_)
                  refine q_iaddS (n := 105) dX3_addTrack_104 rfl ⟨by omega, by omega⟩ ?_
                  refine q_iload_n (n := 106) dX3_addTrack_105 rfl rfl ?_
                  refine q_iastore (n := 107) dX3_addTrack_106 rfl xi2 ⟨by omega, by omega⟩ ?_
                  refine q_aload_n (n := 108) dX3_addTrack_107 rfl rfl ?_
                  refine q_getR (n := 111) dX3_addTrack_108 rfl fX3_21 xi1 rfl ?_
                  refine q_iload (n := 113) dX3_addTrack_111 rfl rfl ?_
                  refine q_iconst (n := 114) dX3_addTrack_113 rfl (k := ?_)
                  refine q_iaddS (n := 115) dX3_addTrack_114 rfl ⟨by omega, by omega⟩ ?_
                  refine q_iload_n (n := 116) dX3_addTrack_115 rfl rfl ?_
                  refine q_iastore (n := 117) dX3_addTrack_116 rfl xi2 ⟨by omega, by omega⟩ ?_
                  refine q_aload_n (n := 118) dX3_addTrack_117 rfl rfl ?_
                  refine q_getR (n := 121) dX3_addTrack_118 rfl fX3_21 xi1 rfl ?_
                  refine q_iload (n := 123) dX3_addTrack_121 rfl rfl ?_
                  refine q_iconst (n := 124) dX3_addTrack_123 rfl (k := ?_)
                  refine q_iaddS (n := 125) dX3_addTrack_124 rfl ⟨by omega, by omega⟩ ?_
                  refine q_iload (n := 127) dX3_addTrack_125 rfl rfl ?_
                  refine q_iastore (n := 128) dX3_addTrack_127 rfl xi2 ⟨by omega, by omega⟩ ?_
                  refine q_aload_n (n := 129) dX3_addTrack_128 rfl rfl ?_
                  refine q_getR (n := 132) dX3_addTrack_129 rfl fX3_21 xi1 rfl ?_
                  refine q_iload (n := 134) dX3_addTrack_132 rfl rfl ?_
                  refine q_iconst (n := 135) dX3_addTrack_134 rfl (k := ?_)
                  refine q_iaddS (n := 136) dX3_addTrack_135 rfl ⟨by omega, by omega⟩ ?_
                  refine q_iload (n := 138) dX3_addTrack_136 rfl rfl ?_
                  refine q_iastore (n := 139) dX3_addTrack_138 rfl xi2 ⟨by omega, by omega⟩ ?_
                  refine q_aload_n (n := 140) dX3_addTrack_139 rfl rfl ?_
                  refine q_getR (n := 143) dX3_addTrack_140 rfl fX3_21 xi1 rfl ?_
                  refine q_iload (n := 145) dX3_addTrack_143 rfl rfl ?_
                  refine q_iconst (n := 146) dX3_addTrack_145 rfl (k := ?_)
                  refine q_iaddS (n := 147) dX3_addTrack_146 rfl ⟨by omega, by omega⟩ ?_
                  refine q_iload (n := 149) dX3_addTrack_147 rfl rfl ?_
                  refine q_iastore (n := 150) dX3_addTrack_149 rfl xi2 ⟨by omega, by omega⟩ ?_
                  refine q_aload_n (n := 151) dX3_addTrack_150 rfl rfl ?_
                  refine q_getR (n := 154) dX3_addTrack_151 rfl fX3_25 xi1 rfl ?_
                  refine q_aload_n (n := 155) dX3_addTrack_154 rfl rfl ?_
                  refine q_getIE (σ 1 1) (kI := 1) (n := 158) (by decide) dX3_addTrack_155 rfl fX3_15 xi1 rfl rfl (by simp [q_up]) ?_
                  refine q_bipush (n := 160) dX3_addTrack_158 rfl (k := ?_)
                  refine q_iastore (n := 161) dX3_addTrack_160 rfl xi3 ⟨by omega, by omega⟩ ?_
                  refine q_aload_n (n := 162) dX3_addTrack_161 rfl rfl ?_
                  refine q_dup (n := 163) dX3_addTrack_162 rfl rfl ?_
                  refine q_getIE (σ 1 1) (kI := 1) (n := 166) (by decide) dX3_addTrack_163 rfl fX3_15 xi1 rfl rfl (by simp [q_up]) ?_
                  refine q_iconst (n := 167) dX3_addTrack_166 rfl (k := ?_)
                  refine q_iaddS (n := 168) dX3_addTrack_167 rfl ⟨by omega, by omega⟩ ?_
                  refine q_putI (kI := 1) (n := 171) dX3_addTrack_168 rfl pX3_15 xi1 rfl rfl ?_
                  refine q_aload_n (n := 172) dX3_addTrack_171 rfl rfl ?_
                  refine q_getIE (σ 1 1 + 1) (kI := 1) (n := 175) (by decide) dX3_addTrack_172 rfl fX3_15 xi1 rfl rfl (by simp [q_up]) ?_
                  refine q_iconst (n := 176) dX3_addTrack_175 rfl (k := ?_)
                  refine q_isubS (n := 177) dX3_addTrack_176 rfl ⟨by omega, by omega⟩ ?_
                  refine q_iret dX3_addTrack_177 rfl (fun _ => rfl) ?_
                  first
                    | exact ⟨_, rfl, Or.inl ⟨by omega, rfl, rfl⟩⟩
                    | exact ⟨_, rfl, Or.inr (Or.inl ⟨by omega, by omega, rfl, rfl⟩)⟩
                    | exact ⟨_, rfl, Or.inr (Or.inr (Or.inl ⟨by omega, by omega, by omega, rfl, rfl⟩))⟩
                    | exact ⟨_, rfl, Or.inr (Or.inr (Or.inr ⟨by omega, by omega, by omega, by congr 1; omega, rfl⟩))⟩
                · skip
                  refine q_bipush (n := 79) dX3_addTrack_77 rfl (k := ?_)
                  refine q_iret dX3_addTrack_79 rfl (fun _ => rfl) ?_
                  first
                    | exact ⟨_, rfl, Or.inl ⟨by omega, rfl, rfl⟩⟩
                    | exact ⟨_, rfl, Or.inr (Or.inl ⟨by omega, by omega, rfl, rfl⟩)⟩
                    | exact ⟨_, rfl, Or.inr (Or.inr (Or.inl ⟨by omega, by omega, by omega, rfl, rfl⟩))⟩
                    | exact ⟨_, rfl, Or.inr (Or.inr (Or.inr ⟨by omega, by omega, by omega, by congr 1; omega, rfl⟩))⟩
              · skip
                refine q_iload (n := 60) dX3_addTrack_58 rfl rfl ?_
                refine q_iload (n := 62) dX3_addTrack_60 rfl rfl ?_
                refine q_icmp_ne (n := 65) (t := 68) dX3_addTrack_62 rfl (by decide) (fun h62 => ?_) (fun h62 => ?_)
                · skip
                  refine q_aload_n (n := 69) dX3_addTrack_68 rfl rfl ?_
                  refine q_getI (kI := 1) (n := 72) (by decide) dX3_addTrack_69 rfl fX3_15 xi1 rfl rfl ?_
                  refine q_bipush (n := 74) dX3_addTrack_72 rfl (k := ?_)
                  refine q_icmp_ne (n := 77) (t := 80) dX3_addTrack_74 rfl (by decide) (fun h74 => ?_) (fun h74 => ?_)
                  · skip
                    refine q_bipush (n := 82) dX3_addTrack_80 rfl (k := ?_)
                    refine q_aload_n (n := 83) dX3_addTrack_82 rfl rfl ?_
                    refine q_getI (kI := 1) (n := 86) (by decide) dX3_addTrack_83 rfl fX3_15 xi1 rfl rfl ?_
                    refine q_imulS (n := 87) dX3_addTrack_86 rfl ⟨by omega, by omega⟩ ?_
                    refine q_istore (n := 89) dX3_addTrack_87 rfl (by decide) (q_s1_s (q_s1_s (q_s1_s (q_s1_s (q_s1_s (q_s1_s (q_s1_1 rfl))))))) ?_
                    refine q_aload_n (n := 90) dX3_addTrack_89 rfl rfl ?_
                    refine q_getR (n := 93) dX3_addTrack_90 rfl fX3_21 xi1 rfl ?_
                    refine q_iload (n := 95) dX3_addTrack_93 rfl rfl ?_
                    refine q_iload_n (n := 96) dX3_addTrack_95 rfl rfl ?_
                    refine q_iastore (n := 97) dX3_addTrack_96 rfl xi2 ⟨by omega, by omega⟩ ?_
                    refine q_aload_n (n := 98) dX3_addTrack_97 rfl rfl ?_
                    refine q_getR (n := 101) dX3_addTrack_98 rfl fX3_21 xi1 rfl ?_
                    refine q_iload (n := 103) dX3_addTrack_101 rfl rfl ?_
                    refine q_iconst (n := 104) dX3_addTrack_103 rfl (k := ?_)
                    refine q_iaddS (n := 105) dX3_addTrack_104 rfl ⟨by omega, by omega⟩ ?_
                    refine q_iload_n (n := 106) dX3_addTrack_105 rfl rfl ?_
                    refine q_iastore (n := 107) dX3_addTrack_106 rfl xi2 ⟨by omega, by omega⟩ ?_
                    refine q_aload_n (n := 108) dX3_addTrack_107 rfl rfl ?_
                    refine q_getR (n := 111) dX3_addTrack_108 rfl fX3_21 xi1 rfl ?_
                    refine q_iload (n := 113) dX3_addTrack_111 rfl rfl ?_
                    refine q_iconst (n := 114) dX3_addTrack_113 rfl (k := ?_)
                    refine q_iaddS (n := 115) dX3_addTrack_114 rfl ⟨by omega, by omega⟩ ?_
                    refine q_iload_n (n := 116) dX3_addTrack_115 rfl rfl ?_
                    refine q_iastore (n := 117) dX3_addTrack_116 rfl xi2 ⟨by omega, by omega⟩ ?_
                    refine q_aload_n (n := 118) dX3_addTrack_117 rfl rfl ?_
                    refine q_getR (n := 121) dX3_addTrack_118 rfl fX3_21 xi1 rfl ?_
                    refine q_iload (n := 123) dX3_addTrack_121 rfl rfl ?_
                    refine q_iconst (n := 124) dX3_addTrack_123 rfl (k := ?_)
                    refine q_iaddS (n := 125) dX3_addTrack_124 rfl ⟨by omega, by omega⟩ ?_
                    refine q_iload (n := 127) dX3_addTrack_125 rfl rfl ?_
                    refine q_iastore (n := 128) dX3_addTrack_127 rfl xi2 ⟨by omega, by omega⟩ ?_
                    refine q_aload_n (n := 129) dX3_addTrack_128 rfl rfl ?_
                    refine q_getR (n := 132) dX3_addTrack_129 rfl fX3_21 xi1 rfl ?_
                    refine q_iload (n := 134) dX3_addTrack_132 rfl rfl ?_
                    refine q_iconst (n := 135) dX3_addTrack_134 rfl (k := ?_)
                    refine q_iaddS (n := 136) dX3_addTrack_135 rfl ⟨by omega, by omega⟩ ?_
                    refine q_iload (n := 138) dX3_addTrack_136 rfl rfl ?_
                    refine q_iastore (n := 139) dX3_addTrack_138 rfl xi2 ⟨by omega, by omega⟩ ?_
                    refine q_aload_n (n := 140) dX3_addTrack_139 rfl rfl ?_
                    refine q_getR (n := 143) dX3_addTrack_140 rfl fX3_21 xi1 rfl ?_
                    refine q_iload (n := 145) dX3_addTrack_143 rfl rfl ?_
                    refine q_iconst (n := 146) dX3_addTrack_145 rfl (k := ?_)
                    refine q_iaddS (n := 147) dX3_addTrack_146 rfl ⟨by omega, by omega⟩ ?_
                    refine q_iload (n := 149) dX3_addTrack_147 rfl rfl ?_
                    refine q_iastore (n := 150) dX3_addTrack_149 rfl xi2 ⟨by omega, by omega⟩ ?_
                    refine q_aload_n (n := 151) dX3_addTrack_150 rfl rfl ?_
                    refine q_getR (n := 154) dX3_addTrack_151 rfl fX3_25 xi1 rfl ?_
                    refine q_aload_n (n := 155) dX3_addTrack_154 rfl rfl ?_
                    refine q_getIE (σ 1 1) (kI := 1) (n := 158) (by decide) dX3_addTrack_155 rfl fX3_15 xi1 rfl rfl (by simp [q_up]) ?_
                    refine q_bipush (n := 160) dX3_addTrack_158 rfl (k := ?_)
                    refine q_iastore (n := 161) dX3_addTrack_160 rfl xi3 ⟨by omega, by omega⟩ ?_
                    refine q_aload_n (n := 162) dX3_addTrack_161 rfl rfl ?_
                    refine q_dup (n := 163) dX3_addTrack_162 rfl rfl ?_
                    refine q_getIE (σ 1 1) (kI := 1) (n := 166) (by decide) dX3_addTrack_163 rfl fX3_15 xi1 rfl rfl (by simp [q_up]) ?_
                    refine q_iconst (n := 167) dX3_addTrack_166 rfl (k := ?_)
                    refine q_iaddS (n := 168) dX3_addTrack_167 rfl ⟨by omega, by omega⟩ ?_
                    refine q_putI (kI := 1) (n := 171) dX3_addTrack_168 rfl pX3_15 xi1 rfl rfl ?_
                    refine q_aload_n (n := 172) dX3_addTrack_171 rfl rfl ?_
                    refine q_getIE (σ 1 1 + 1) (kI := 1) (n := 175) (by decide) dX3_addTrack_172 rfl fX3_15 xi1 rfl rfl (by simp [q_up]) ?_
                    refine q_iconst (n := 176) dX3_addTrack_175 rfl (k := ?_)
                    refine q_isubS (n := 177) dX3_addTrack_176 rfl ⟨by omega, by omega⟩ ?_
                    refine q_iret dX3_addTrack_177 rfl (fun _ => rfl) ?_
                    first
                      | exact ⟨_, rfl, Or.inl ⟨by omega, rfl, rfl⟩⟩
                      | exact ⟨_, rfl, Or.inr (Or.inl ⟨by omega, by omega, rfl, rfl⟩)⟩
                      | exact ⟨_, rfl, Or.inr (Or.inr (Or.inl ⟨by omega, by omega, by omega, rfl, rfl⟩))⟩
                      | exact ⟨_, rfl, Or.inr (Or.inr (Or.inr ⟨by omega, by omega, by omega, by congr 1; omega, rfl⟩))⟩
                  · skip
                    refine q_bipush (n := 79) dX3_addTrack_77 rfl (k := ?_)
                    refine q_iret dX3_addTrack_79 rfl (fun _ => rfl) ?_
                    first
                      | exact ⟨_, rfl, Or.inl ⟨by omega, rfl, rfl⟩⟩
                      | exact ⟨_, rfl, Or.inr (Or.inl ⟨by omega, by omega, rfl, rfl⟩)⟩
                      | exact ⟨_, rfl, Or.inr (Or.inr (Or.inl ⟨by omega, by omega, by omega, rfl, rfl⟩))⟩
                      | exact ⟨_, rfl, Or.inr (Or.inr (Or.inr ⟨by omega, by omega, by omega, by congr 1; omega, rfl⟩))⟩
                · skip
                  refine q_bipush (n := 67) dX3_addTrack_65 rfl (k := ?_)
                  refine q_iret dX3_addTrack_67 rfl (fun _ => rfl) ?_
                  first
                    | exact ⟨_, rfl, Or.inl ⟨by omega, rfl, rfl⟩⟩
                    | exact ⟨_, rfl, Or.inr (Or.inl ⟨by omega, by omega, rfl, rfl⟩)⟩
                    | exact ⟨_, rfl, Or.inr (Or.inr (Or.inl ⟨by omega, by omega, by omega, rfl, rfl⟩))⟩
                    | exact ⟨_, rfl, Or.inr (Or.inr (Or.inr ⟨by omega, by omega, by omega, by congr 1; omega, rfl⟩))⟩
            · skip
              refine q_iload_n (n := 47) dX3_addTrack_46 rfl rfl ?_
              refine q_iload (n := 49) dX3_addTrack_47 rfl rfl ?_
              refine q_icmp_eq (n := 52) (t := 65) dX3_addTrack_49 rfl (by decide) (fun h49 => ?_) (fun h49 => ?_)
              · skip
                refine q_bipush (n := 67) dX3_addTrack_65 rfl (k := ?_)
                refine q_iret dX3_addTrack_67 rfl (fun _ => rfl) ?_
                first
                  | exact ⟨_, rfl, Or.inl ⟨by omega, rfl, rfl⟩⟩
                  | exact ⟨_, rfl, Or.inr (Or.inl ⟨by omega, by omega, rfl, rfl⟩)⟩
                  | exact ⟨_, rfl, Or.inr (Or.inr (Or.inl ⟨by omega, by omega, by omega, rfl, rfl⟩))⟩
                  | exact ⟨_, rfl, Or.inr (Or.inr (Or.inr ⟨by omega, by omega, by omega, by congr 1; omega, rfl⟩))⟩
              · skip
                refine q_iload_n (n := 53) dX3_addTrack_52 rfl rfl ?_
                refine q_iload (n := 55) dX3_addTrack_53 rfl rfl ?_
                refine q_icmp_ne (n := 58) (t := 68) dX3_addTrack_55 rfl (by decide) (fun h55 => ?_) (fun h55 => ?_)
                · skip
                  refine q_aload_n (n := 69) dX3_addTrack_68 rfl rfl ?_
                  refine q_getI (kI := 1) (n := 72) (by decide) dX3_addTrack_69 rfl fX3_15 xi1 rfl rfl ?_
                  refine q_bipush (n := 74) dX3_addTrack_72 rfl (k := ?_)
                  refine q_icmp_ne (n := 77) (t := 80) dX3_addTrack_74 rfl (by decide) (fun h74 => ?_) (fun h74 => ?_)
                  · skip
                    refine q_bipush (n := 82) dX3_addTrack_80 rfl (k := ?_)
                    refine q_aload_n (n := 83) dX3_addTrack_82 rfl rfl ?_
                    refine q_getI (kI := 1) (n := 86) (by decide) dX3_addTrack_83 rfl fX3_15 xi1 rfl rfl ?_
                    refine q_imulS (n := 87) dX3_addTrack_86 rfl ⟨by omega, by omega⟩ ?_
                    refine q_istore (n := 89) dX3_addTrack_87 rfl (by decide) (q_s1_s (q_s1_s (q_s1_s (q_s1_s (q_s1_s (q_s1_s (q_s1_1 rfl))))))) ?_
                    refine q_aload_n (n := 90) dX3_addTrack_89 rfl rfl ?_
                    refine q_getR (n := 93) dX3_addTrack_90 rfl fX3_21 xi1 rfl ?_
                    refine q_iload (n := 95) dX3_addTrack_93 rfl rfl ?_
                    refine q_iload_n (n := 96) dX3_addTrack_95 rfl rfl ?_
                    refine q_iastore (n := 97) dX3_addTrack_96 rfl xi2 ⟨by omega, by omega⟩ ?_
                    refine q_aload_n (n := 98) dX3_addTrack_97 rfl rfl ?_
                    refine q_getR (n := 101) dX3_addTrack_98 rfl fX3_21 xi1 rfl ?_
                    refine q_iload (n := 103) dX3_addTrack_101 rfl rfl ?_
                    refine q_iconst (n := 104) dX3_addTrack_103 rfl (k := ?_)
                    refine q_iaddS (n := 105) dX3_addTrack_104 rfl ⟨by omega, by omega⟩ ?_
                    refine q_iload_n (n := 106) dX3_addTrack_105 rfl rfl ?_
                    refine q_iastore (n := 107) dX3_addTrack_106 rfl xi2 ⟨by omega, by omega⟩ ?_
                    refine q_aload_n (n := 108) dX3_addTrack_107 rfl rfl ?_
                    refine q_getR (n := 111) dX3_addTrack_108 rfl fX3_21 xi1 rfl ?_
                    refine q_iload (n := 113) dX3_addTrack_111 rfl rfl ?_
                    refine q_iconst (n := 114) dX3_addTrack_113 rfl (k := ?_)
                    refine q_iaddS (n := 115) dX3_addTrack_114 rfl ⟨by omega, by omega⟩ ?_
                    refine q_iload_n (n := 116) dX3_addTrack_115 rfl rfl ?_
                    refine q_iastore (n := 117) dX3_addTrack_116 rfl xi2 ⟨by omega, by omega⟩ ?_
                    refine q_aload_n (n := 118) dX3_addTrack_117 rfl rfl ?_
                    refine q_getR (n := 121) dX3_addTrack_118 rfl fX3_21 xi1 rfl ?_
                    refine q_iload (n := 123) dX3_addTrack_121 rfl rfl ?_
                    refine q_iconst (n := 124) dX3_addTrack_123 rfl (k := ?_)
                    refine q_iaddS (n := 125) dX3_addTrack_124 rfl ⟨by omega, by omega⟩ ?_
                    refine q_iload (n := 127) dX3_addTrack_125 rfl rfl ?_
                    refine q_iastore (n := 128) dX3_addTrack_127 rfl xi2 ⟨by omega, by omega⟩ ?_
                    refine q_aload_n (n := 129) dX3_addTrack_128 rfl rfl ?_
                    refine q_getR (n := 132) dX3_addTrack_129 rfl fX3_21 xi1 rfl ?_
                    refine q_iload (n := 134) dX3_addTrack_132 rfl rfl ?_
                    refine q_iconst (n := 135) dX3_addTrack_134 rfl (k := ?_)
                    refine q_iaddS (n := 136) dX3_addTrack_135 rfl ⟨by omega, by omega⟩ ?_
                    refine q_iload (n := 138) dX3_addTrack_136 rfl rfl ?_
                    refine q_iastore (n := 139) dX3_addTrack_138 rfl xi2 ⟨by omega, by omega⟩ ?_
                    refine q_aload_n (n := 140) dX3_addTrack_139 rfl rfl ?_
                    refine q_getR (n := 143) dX3_addTrack_140 rfl fX3_21 xi1 rfl ?_
                    refine q_iload (n := 145) dX3_addTrack_143 rfl rfl ?_
                    refine q_iconst (n := 146) dX3_addTrack_145 rfl (k := ?_)
                    refine q_iaddS (n := 147) dX3_addTrack_146 rfl ⟨by omega, by omega⟩ ?_
                    refine q_iload (n := 149) dX3_addTrack_147 rfl rfl ?_
                    refine q_iastore (n := 150) dX3_addTrack_149 rfl xi2 ⟨by omega, by omega⟩ ?_
                    refine q_aload_n (n := 151) dX3_addTrack_150 rfl rfl ?_
                    refine q_getR (n := 154) dX3_addTrack_151 rfl fX3_25 xi1 rfl ?_
                    refine q_aload_n (n := 155) dX3_addTrack_154 rfl rfl ?_
                    refine q_getIE (σ 1 1) (kI := 1) (n := 158) (by decide) dX3_addTrack_155 rfl fX3_15 xi1 rfl rfl (by simp [q_up]) ?_
                    refine q_bipush (n := 160) dX3_addTrack_158 rfl (k := ?_)
                    refine q_iastore (n := 161) dX3_addTrack_160 rfl xi3 ⟨by omega, by omega⟩ ?_
                    refine q_aload_n (n := 162) dX3_addTrack_161 rfl rfl ?_
                    refine q_dup (n := 163) dX3_addTrack_162 rfl rfl ?_
                    refine q_getIE (σ 1 1) (kI := 1) (n := 166) (by decide) dX3_addTrack_163 rfl fX3_15 xi1 rfl rfl (by simp [q_up]) ?_
                    refine q_iconst (n := 167) dX3_addTrack_166 rfl (k := ?_)
                    refine q_iaddS (n := 168) dX3_addTrack_167 rfl ⟨by omega, by omega⟩ ?_
                    refine q_putI (kI := 1) (n := 171) dX3_addTrack_168 rfl pX3_15 xi1 rfl rfl ?_
                    refine q_aload_n (n := 172) dX3_addTrack_171 rfl rfl ?_
                    refine q_getIE (σ 1 1 + 1) (kI := 1) (n := 175) (by decide) dX3_addTrack_172 rfl fX3_15 xi1 rfl rfl (by simp [q_up]) ?_
                    refine q_iconst (n := 176) dX3_addTrack_175 rfl (k := ?_)
                    refine q_isubS (n := 177) dX3_addTrack_176 rfl ⟨by omega, by omega⟩ ?_
                    refine q_iret dX3_addTrack_177 rfl (fun _ => rfl) ?_
                    first
                      | exact ⟨_, rfl, Or.inl ⟨by omega, rfl, rfl⟩⟩
                      | exact ⟨_, rfl, Or.inr (Or.inl ⟨by omega, by omega, rfl, rfl⟩)⟩
                      | exact ⟨_, rfl, Or.inr (Or.inr (Or.inl ⟨by omega, by omega, by omega, rfl, rfl⟩))⟩
                      | exact ⟨_, rfl, Or.inr (Or.inr (Or.inr ⟨by omega, by omega, by omega, by congr 1; omega, rfl⟩))⟩
                  · skip
                    refine q_bipush (n := 79) dX3_addTrack_77 rfl (k := ?_)
                    refine q_iret dX3_addTrack_79 rfl (fun _ => rfl) ?_
                    first
                      | exact ⟨_, rfl, Or.inl ⟨by omega, rfl, rfl⟩⟩
                      | exact ⟨_, rfl, Or.inr (Or.inl ⟨by omega, by omega, rfl, rfl⟩)⟩
                      | exact ⟨_, rfl, Or.inr (Or.inr (Or.inl ⟨by omega, by omega, by omega, rfl, rfl⟩))⟩
                      | exact ⟨_, rfl, Or.inr (Or.inr (Or.inr ⟨by omega, by omega, by omega, by congr 1; omega, rfl⟩))⟩
                · skip
                  refine q_iload (n := 60) dX3_addTrack_58 rfl rfl ?_
                  refine q_iload (n := 62) dX3_addTrack_60 rfl rfl ?_
                  refine q_icmp_ne (n := 65) (t := 68) dX3_addTrack_62 rfl (by decide) (fun h62 => ?_) (fun h62 => ?_)
                  · skip
                    refine q_aload_n (n := 69) dX3_addTrack_68 rfl rfl ?_
                    refine q_getI (kI := 1) (n := 72) (by decide) dX3_addTrack_69 rfl fX3_15 xi1 rfl rfl ?_
                    refine q_bipush (n := 74) dX3_addTrack_72 rfl (k := ?_)
                    refine q_icmp_ne (n := 77) (t := 80) dX3_addTrack_74 rfl (by decide) (fun h74 => ?_) (fun h74 => ?_)
                    · skip
                      refine q_bipush (n := 82) dX3_addTrack_80 rfl (k := ?_)
                      refine q_aload_n (n := 83) dX3_addTrack_82 rfl rfl ?_
                      refine q_getI (kI := 1) (n := 86) (by decide) dX3_addTrack_83 rfl fX3_15 xi1 rfl rfl ?_
                      refine q_imulS (n := 87) dX3_addTrack_86 rfl ⟨by omega, by omega⟩ ?_
                      refine q_istore (n := 89) dX3_addTrack_87 rfl (by decide) (q_s1_s (q_s1_s (q_s1_s (q_s1_s (q_s1_s (q_s1_s (q_s1_1 rfl))))))) ?_
                      refine q_aload_n (n := 90) dX3_addTrack_89 rfl rfl ?_
                      refine q_getR (n := 93) dX3_addTrack_90 rfl fX3_21 xi1 rfl ?_
                      refine q_iload (n := 95) dX3_addTrack_93 rfl rfl ?_
                      refine q_iload_n (n := 96) dX3_addTrack_95 rfl rfl ?_
                      refine q_iastore (n := 97) dX3_addTrack_96 rfl xi2 ⟨by omega, by omega⟩ ?_
                      refine q_aload_n (n := 98) dX3_addTrack_97 rfl rfl ?_
                      refine q_getR (n := 101) dX3_addTrack_98 rfl fX3_21 xi1 rfl ?_
                      refine q_iload (n := 103) dX3_addTrack_101 rfl rfl ?_
                      refine q_iconst (n := 104) dX3_addTrack_103 rfl (k := ?_)
                      refine q_iaddS (n := 105) dX3_addTrack_104 rfl ⟨by omega, by omega⟩ ?_
                      refine q_iload_n (n := 106) dX3_addTrack_105 rfl rfl ?_
                      refine q_iastore (n := 107) dX3_addTrack_106 rfl xi2 ⟨by omega, by omega⟩ ?_
                      refine q_aload_n (n := 108) dX3_addTrack_107 rfl rfl ?_
                      refine q_getR (n := 111) dX3_addTrack_108 rfl fX3_21 xi1 rfl ?_
                      refine q_iload (n := 113) dX3_addTrack_111 rfl rfl ?_
                      refine q_iconst (n := 114) dX3_addTrack_113 rfl (k := ?_)
                      refine q_iaddS (n := 115) dX3_addTrack_114 rfl ⟨by omega, by omega⟩ ?_
                      refine q_iload_n (n := 116) dX3_addTrack_115 rfl rfl ?_
                      refine q_iastore (n := 117) dX3_addTrack_116 rfl xi2 ⟨by omega, by omega⟩ ?_
                      refine q_aload_n (n := 118) dX3_addTrack_117 rfl rfl ?_
                      refine q_getR (n := 121) dX3_addTrack_118 rfl fX3_21 xi1 rfl ?_
                      refine q_iload (n := 123) dX3_addTrack_121 rfl rfl ?_
                      refine q_iconst (n := 124) dX3_addTrack_123 rfl (k := ?_)
                      refine q_iaddS (n := 125) dX3_addTrack_124 rfl ⟨by omega, by omega⟩ ?_
                      refine q_iload (n := 127) dX3_addTrack_125 rfl rfl ?_
                      refine q_iastore (n := 128) dX3_addTrack_127 rfl xi2 ⟨by omega, by omega⟩ ?_
                      refine q_aload_n (n := 129) dX3_addTrack_128 rfl rfl ?_
                      refine q_getR (n := 132) dX3_addTrack_129 rfl fX3_21 xi1 rfl ?_
                      refine q_iload (n := 134) dX3_addTrack_132 rfl rfl ?_
                      refine q_iconst (n := 135) dX3_addTrack_134 rfl (k := ?_)
                      refine q_iaddS (n := 136) dX3_addTrack_135 rfl ⟨by omega, by omega⟩ ?_
                      refine q_iload (n := 138) dX3_addTrack_136 rfl rfl ?_
                      refine q_iastore (n := 139) dX3_addTrack_138 rfl xi2 ⟨by omega, by omega⟩ ?_
                      refine q_aload_n (n := 140) dX3_addTrack_139 rfl rfl ?_
                      refine q_getR (n := 143) dX3_addTrack_140 rfl fX3_21 xi1 rfl ?_
                      refine q_iload (n := 145) dX3_addTrack_143 rfl rfl ?_
                      refine q_iconst (n := 146) dX3_addTrack_145 rfl (k := ?_)
                      refine q_iaddS (n := 147) dX3_addTrack_146 rfl ⟨by omega, by omega⟩ ?_
                      refine q_iload (n := 149) dX3_addTrack_147 rfl rfl ?_
                      refine q_iastore (n := 150) dX3_addTrack_149 rfl xi2 ⟨by omega, by omega⟩ ?_
                      refine q_aload_n (n := 151) dX3_addTrack_150 rfl rfl ?_
                      refine q_getR (n := 154) dX3_addTrack_151 rfl fX3_25 xi1 rfl ?_
                      refine q_aload_n (n := 155) dX3_addTrack_154 rfl rfl ?_
                      refine q_getIE (σ 1 1) (kI := 1) (n := 158) (by decide) dX3_addTrack_155 rfl fX3_15 xi1 rfl rfl (by simp [q_up]) ?_
                      refine q_bipush (n := 160) dX3_addTrack_158 rfl (k := ?_)
                      refine q_iastore (n := 161) dX3_addTrack_160 rfl xi3 ⟨by omega, by omega⟩ ?_
                      refine q_aload_n (n := 162) dX3_addTrack_161 rfl rfl ?_
                      refine q_dup (n := 163) dX3_addTrack_162 rfl rfl ?_
                      refine q_getIE (σ 1 1) (kI := 1) (n := 166) (by decide) dX3_addTrack_163 rfl fX3_15 xi1 rfl rfl (by simp [q_up]) ?_
                      refine q_iconst (n := 167) dX3_addTrack_166 rfl (k := ?_)
                      refine q_iaddS (n := 168) dX3_addTrack_167 rfl ⟨by omega, by omega⟩ ?_
                      refine q_putI (kI := 1) (n := 171) dX3_addTrack_168 rfl pX3_15 xi1 rfl rfl ?_
                      refine q_aload_n (n := 172) dX3_addTrack_171 rfl rfl ?_
                      refine q_getIE (σ 1 1 + 1) (kI := 1) (n := 175) (by decide) dX3_addTrack_172 rfl fX3_15 xi1 rfl rfl (by simp [q_up]) ?_
                      refine q_iconst (n := 176) dX3_addTrack_175 rfl (k := ?_)
                      refine q_isubS (n := 177) dX3_addTrack_176 rfl ⟨by omega, by omega⟩ ?_
                      refine q_iret dX3_addTrack_177 rfl (fun _ => rfl) ?_
                      first
                        | exact ⟨_, rfl, Or.inl ⟨by omega, rfl, rfl⟩⟩
                        | exact ⟨_, rfl, Or.inr (Or.inl ⟨by omega, by omega, rfl, rfl⟩)⟩
                        | exact ⟨_, rfl, Or.inr (Or.inr (Or.inl ⟨by omega, by omega, by omega, rfl, rfl⟩))⟩
                        | exact ⟨_, rfl, Or.inr (Or.inr (Or.inr ⟨by omega, by omega, by omega, by congr 1; omega, rfl⟩))⟩
                    · skip
                      refine q_bipush (n := 79) dX3_addTrack_77 rfl (k := ?_)
                      refine q_iret dX3_addTrack_79 rfl (fun _ => rfl) ?_
                      first
                        | exact ⟨_, rfl, Or.inl ⟨by omega, rfl, rfl⟩⟩
                        | exact ⟨_, rfl, Or.inr (Or.inl ⟨by omega, by omega, rfl, rfl⟩)⟩
                        | exact ⟨_, rfl, Or.inr (Or.inr (Or.inl ⟨by omega, by omega, by omega, rfl, rfl⟩))⟩
                        | exact ⟨_, rfl, Or.inr (Or.inr (Or.inr ⟨by omega, by omega, by omega, by congr 1; omega, rfl⟩))⟩
                  · skip
                    refine q_bipush (n := 67) dX3_addTrack_65 rfl (k := ?_)
                    refine q_iret dX3_addTrack_67 rfl (fun _ => rfl) ?_
                    first
                      | exact ⟨_, rfl, Or.inl ⟨by omega, rfl, rfl⟩⟩
                      | exact ⟨_, rfl, Or.inr (Or.inl ⟨by omega, by omega, rfl, rfl⟩)⟩
                      | exact ⟨_, rfl, Or.inr (Or.inr (Or.inl ⟨by omega, by omega, by omega, rfl, rfl⟩))⟩
                      | exact ⟨_, rfl, Or.inr (Or.inr (Or.inr ⟨by omega, by omega, by omega, by congr 1; omega, rfl⟩))⟩
      · have h24 := q_b0.mp h24
        refine q_iconst (n := 28) dX3_addTrack_27 rfl (k := ?_)
        refine q_iret dX3_addTrack_28 rfl (fun _ => rfl) ?_
        first
          | exact ⟨_, rfl, Or.inl ⟨by omega, rfl, rfl⟩⟩
          | exact ⟨_, rfl, Or.inr (Or.inl ⟨by omega, by omega, rfl, rfl⟩)⟩
          | exact ⟨_, rfl, Or.inr (Or.inr (Or.inl ⟨by omega, by omega, by omega, rfl, rfl⟩))⟩
          | exact ⟨_, rfl, Or.inr (Or.inr (Or.inr ⟨by omega, by omega, by omega, by congr 1; omega, rfl⟩))⟩
set_option maxRecDepth 100000 in
theorem zX3_canTie (a b : Int) (σ : q_S) (h : 0 ≤ σ 1 1 ∧ σ 1 1 ≤ 8) : q_Ct mX3_canTie shX [.inr (.inr 1), .inl a, .inl b] σ (fun r σ' => ∃ v, r = some v ∧ (tieok (σ 1 1) a b ∧ v = .inl 1 ∧ σ' = σ ∨ ¬ tieok (σ 1 1) a b ∧ v = .inl 0 ∧ σ' = σ)) := by
  refine q_ct 0 (by decide) rfl rfl ?_
  show q_WP mX3_canTie shX 0 [some (.inr (.inr 1)), some (.inl a), some (.inl b)] [] σ _
  refine q_iload_n (n := 1) dX3_canTie_0 rfl rfl ?_
  refine q_iconst (n := 2) dX3_canTie_1 rfl (k := ?_)
  refine q_icmp_eq (n := 5) (t := 13) dX3_canTie_2 rfl (by decide) (fun h2 => ?_) (fun h2 => ?_)
  · skip
    refine q_iload_n (n := 14) dX3_canTie_13 rfl rfl ?_
    refine q_iconst (n := 15) dX3_canTie_14 rfl (k := ?_)
    refine q_icmp_lt (n := 18) (t := 28) dX3_canTie_15 rfl (by decide) (fun h15 => ?_) (fun h15 => ?_)
    · skip
      refine q_iconst (n := 29) dX3_canTie_28 rfl (k := ?_)
      refine q_iret dX3_canTie_29 rfl (fun _ => rfl) ?_
      unfold tieok
      first
        | exact ⟨_, rfl, Or.inl ⟨⟨by omega, by omega, by omega, by omega, by omega⟩, rfl, rfl⟩⟩
        | exact ⟨_, rfl, Or.inr ⟨fun z => by obtain ⟨z1, z2, z3, z4, z5⟩ := z; omega, rfl, rfl⟩⟩
    · skip
      refine q_iload_n (n := 19) dX3_canTie_18 rfl rfl ?_
      refine q_iconst (n := 20) dX3_canTie_19 rfl (k := ?_)
      refine q_aload_n (n := 21) dX3_canTie_20 rfl rfl ?_
      refine q_getI (kI := 1) (n := 24) (by decide) dX3_canTie_21 rfl fX3_15 xi1 rfl rfl ?_
      refine q_ishl (n := 25) dX3_canTie_24 rfl ?_
      refine q_icmp_lt (n := 28) (t := 30) dX3_canTie_25 rfl (by decide) (fun h25 => ?_) (fun h25 => ?_)
      · skip
        refine q_iload_n (n := 31) dX3_canTie_30 rfl rfl ?_
        refine q_c1D (n := 34) dX3_canTie_31 rfl (zJ6_bitCount_0f7a4 _ _ _ ⟨by omega, by have := (shl_1 h).2; omega⟩) vJ6_bitCount_0f7a4 lX3_57 rfl rfl ?_
        refine q_iconst (n := 35) dX3_canTie_34 rfl (k := ?_)
        refine q_icmp_gt (n := 38) (t := 55) dX3_canTie_35 rfl (by decide) (fun h35 => ?_) (fun h35 => ?_)
        · skip
          refine q_iconst (n := 56) dX3_canTie_55 rfl (k := ?_)
          refine q_iret dX3_canTie_56 rfl (fun _ => rfl) ?_
          unfold tieok
          first
            | exact ⟨_, rfl, Or.inl ⟨⟨by omega, by omega, by omega, by omega, by omega⟩, rfl, rfl⟩⟩
            | exact ⟨_, rfl, Or.inr ⟨fun z => by obtain ⟨z1, z2, z3, z4, z5⟩ := z; omega, rfl, rfl⟩⟩
        · skip
          refine q_iload_n (n := 39) dX3_canTie_38 rfl rfl ?_
          refine q_iconst (n := 40) dX3_canTie_39 rfl (k := ?_)
          refine q_icmp_eq (n := 43) (t := 51) dX3_canTie_40 rfl (by decide) (fun h40 => ?_) (fun h40 => ?_)
          · skip
            refine q_iconst (n := 52) dX3_canTie_51 rfl (k := ?_)
            refine q_go (t := 56) dX3_canTie_52 (by decide) ?_
            refine q_iret dX3_canTie_56 rfl (fun _ => rfl) ?_
            unfold tieok
            first
              | exact ⟨_, rfl, Or.inl ⟨⟨by omega, by omega, by omega, by omega, by omega⟩, rfl, rfl⟩⟩
              | exact ⟨_, rfl, Or.inr ⟨fun z => by obtain ⟨z1, z2, z3, z4, z5⟩ := z; omega, rfl, rfl⟩⟩
          · skip
            refine q_iload_n (n := 44) dX3_canTie_43 rfl rfl ?_
            refine q_iload_n (n := 45) dX3_canTie_44 rfl rfl ?_
            refine q_ishr (n := 46) dX3_canTie_45 rfl ?_
            refine q_iconst (n := 47) dX3_canTie_46 rfl (k := ?_)
            refine q_iand (n := 48) dX3_canTie_47 rfl ?_
            refine q_if_ne (n := 51) (t := 55) dX3_canTie_48 rfl (by decide) (fun h48 => ?_) (fun h48 => ?_)
            · skip
              refine q_iconst (n := 56) dX3_canTie_55 rfl (k := ?_)
              refine q_iret dX3_canTie_56 rfl (fun _ => rfl) ?_
              unfold tieok
              first
                | exact ⟨_, rfl, Or.inl ⟨⟨by omega, by omega, by omega, by omega, by omega⟩, rfl, rfl⟩⟩
                | exact ⟨_, rfl, Or.inr ⟨fun z => by obtain ⟨z1, z2, z3, z4, z5⟩ := z; omega, rfl, rfl⟩⟩
            · skip
              refine q_iconst (n := 52) dX3_canTie_51 rfl (k := ?_)
              refine q_go (t := 56) dX3_canTie_52 (by decide) ?_
              refine q_iret dX3_canTie_56 rfl (fun _ => rfl) ?_
              unfold tieok
              first
                | exact ⟨_, rfl, Or.inl ⟨⟨by omega, by omega, by omega, by omega, by omega⟩, rfl, rfl⟩⟩
                | exact ⟨_, rfl, Or.inr ⟨fun z => by obtain ⟨z1, z2, z3, z4, z5⟩ := z; omega, rfl, rfl⟩⟩
      · skip
        refine q_iconst (n := 29) dX3_canTie_28 rfl (k := ?_)
        refine q_iret dX3_canTie_29 rfl (fun _ => rfl) ?_
        unfold tieok
        first
          | exact ⟨_, rfl, Or.inl ⟨⟨by omega, by omega, by omega, by omega, by omega⟩, rfl, rfl⟩⟩
          | exact ⟨_, rfl, Or.inr ⟨fun z => by obtain ⟨z1, z2, z3, z4, z5⟩ := z; omega, rfl, rfl⟩⟩
  · skip
    refine q_aload_n (n := 6) dX3_canTie_5 rfl rfl ?_
    refine q_iload_n (n := 7) dX3_canTie_6 rfl rfl ?_
    refine q_v1D (n := 10) dX3_canTie_7 rfl (zX3_hasTrack 1 _ _ pic1) vX3_hasTrack lX3_53 rfl rfl xi1 rfl ?_
    refine q_if_eq (n := 13) (t := 28) dX3_canTie_10 rfl (by decide) (fun h10 => ?_) (fun h10 => ?_)
    · have h10 := q_b0.mp h10
      refine q_iconst (n := 29) dX3_canTie_28 rfl (k := ?_)
      refine q_iret dX3_canTie_29 rfl (fun _ => rfl) ?_
      unfold tieok
      first
        | exact ⟨_, rfl, Or.inl ⟨⟨by omega, by omega, by omega, by omega, by omega⟩, rfl, rfl⟩⟩
        | exact ⟨_, rfl, Or.inr ⟨fun z => by obtain ⟨z1, z2, z3, z4, z5⟩ := z; omega, rfl, rfl⟩⟩
    · have h10 := q_b1.mp h10
      refine q_iload_n (n := 14) dX3_canTie_13 rfl rfl ?_
      refine q_iconst (n := 15) dX3_canTie_14 rfl (k := ?_)
      refine q_icmp_lt (n := 18) (t := 28) dX3_canTie_15 rfl (by decide) (fun h15 => ?_) (fun h15 => ?_)
      · skip
        refine q_iconst (n := 29) dX3_canTie_28 rfl (k := ?_)
        refine q_iret dX3_canTie_29 rfl (fun _ => rfl) ?_
        unfold tieok
        first
          | exact ⟨_, rfl, Or.inl ⟨⟨by omega, by omega, by omega, by omega, by omega⟩, rfl, rfl⟩⟩
          | exact ⟨_, rfl, Or.inr ⟨fun z => by obtain ⟨z1, z2, z3, z4, z5⟩ := z; omega, rfl, rfl⟩⟩
      · skip
        refine q_iload_n (n := 19) dX3_canTie_18 rfl rfl ?_
        refine q_iconst (n := 20) dX3_canTie_19 rfl (k := ?_)
        refine q_aload_n (n := 21) dX3_canTie_20 rfl rfl ?_
        refine q_getI (kI := 1) (n := 24) (by decide) dX3_canTie_21 rfl fX3_15 xi1 rfl rfl ?_
        refine q_ishl (n := 25) dX3_canTie_24 rfl ?_
        refine q_icmp_lt (n := 28) (t := 30) dX3_canTie_25 rfl (by decide) (fun h25 => ?_) (fun h25 => ?_)
        · skip
          refine q_iload_n (n := 31) dX3_canTie_30 rfl rfl ?_
          refine q_c1D (n := 34) dX3_canTie_31 rfl (zJ6_bitCount_0f7a4 _ _ _ ⟨by omega, by have := (shl_1 h).2; omega⟩) vJ6_bitCount_0f7a4 lX3_57 rfl rfl ?_
          refine q_iconst (n := 35) dX3_canTie_34 rfl (k := ?_)
          refine q_icmp_gt (n := 38) (t := 55) dX3_canTie_35 rfl (by decide) (fun h35 => ?_) (fun h35 => ?_)
          · skip
            refine q_iconst (n := 56) dX3_canTie_55 rfl (k := ?_)
            refine q_iret dX3_canTie_56 rfl (fun _ => rfl) ?_
            unfold tieok
            first
              | exact ⟨_, rfl, Or.inl ⟨⟨by omega, by omega, by omega, by omega, by omega⟩, rfl, rfl⟩⟩
              | exact ⟨_, rfl, Or.inr ⟨fun z => by obtain ⟨z1, z2, z3, z4, z5⟩ := z; omega, rfl, rfl⟩⟩
          · skip
            refine q_iload_n (n := 39) dX3_canTie_38 rfl rfl ?_
            refine q_iconst (n := 40) dX3_canTie_39 rfl (k := ?_)
            refine q_icmp_eq (n := 43) (t := 51) dX3_canTie_40 rfl (by decide) (fun h40 => ?_) (fun h40 => ?_)
            · skip
              refine q_iconst (n := 52) dX3_canTie_51 rfl (k := ?_)
              refine q_go (t := 56) dX3_canTie_52 (by decide) ?_
              refine q_iret dX3_canTie_56 rfl (fun _ => rfl) ?_
              unfold tieok
              first
                | exact ⟨_, rfl, Or.inl ⟨⟨by omega, by omega, by omega, by omega, by omega⟩, rfl, rfl⟩⟩
                | exact ⟨_, rfl, Or.inr ⟨fun z => by obtain ⟨z1, z2, z3, z4, z5⟩ := z; omega, rfl, rfl⟩⟩
            · skip
              refine q_iload_n (n := 44) dX3_canTie_43 rfl rfl ?_
              refine q_iload_n (n := 45) dX3_canTie_44 rfl rfl ?_
              refine q_ishr (n := 46) dX3_canTie_45 rfl ?_
              refine q_iconst (n := 47) dX3_canTie_46 rfl (k := ?_)
              refine q_iand (n := 48) dX3_canTie_47 rfl ?_
              refine q_if_ne (n := 51) (t := 55) dX3_canTie_48 rfl (by decide) (fun h48 => ?_) (fun h48 => ?_)
              · skip
                refine q_iconst (n := 56) dX3_canTie_55 rfl (k := ?_)
                refine q_iret dX3_canTie_56 rfl (fun _ => rfl) ?_
                unfold tieok
                first
                  | exact ⟨_, rfl, Or.inl ⟨⟨by omega, by omega, by omega, by omega, by omega⟩, rfl, rfl⟩⟩
                  | exact ⟨_, rfl, Or.inr ⟨fun z => by obtain ⟨z1, z2, z3, z4, z5⟩ := z; omega, rfl, rfl⟩⟩
              · skip
                refine q_iconst (n := 52) dX3_canTie_51 rfl (k := ?_)
                refine q_go (t := 56) dX3_canTie_52 (by decide) ?_
                refine q_iret dX3_canTie_56 rfl (fun _ => rfl) ?_
                unfold tieok
                first
                  | exact ⟨_, rfl, Or.inl ⟨⟨by omega, by omega, by omega, by omega, by omega⟩, rfl, rfl⟩⟩
                  | exact ⟨_, rfl, Or.inr ⟨fun z => by obtain ⟨z1, z2, z3, z4, z5⟩ := z; omega, rfl, rfl⟩⟩
        · skip
          refine q_iconst (n := 29) dX3_canTie_28 rfl (k := ?_)
          refine q_iret dX3_canTie_29 rfl (fun _ => rfl) ?_
          unfold tieok
          first
            | exact ⟨_, rfl, Or.inl ⟨⟨by omega, by omega, by omega, by omega, by omega⟩, rfl, rfl⟩⟩
            | exact ⟨_, rfl, Or.inr ⟨fun z => by obtain ⟨z1, z2, z3, z4, z5⟩ := z; omega, rfl, rfl⟩⟩
set_option maxRecDepth 100000 in
theorem zX3_become (p q : Int) (σ : q_S) (hp : q_Pic p) (hq : q_Pic q) (hpq : p + 6 < q ∨ q + 6 < p) : q_Ct mX3_become shX [.inr (.inr p), .inr (.inr q)] σ (fun r σ' => r = none ∧ (pcopied σ σ' q p)) := by
  refine q_ct 0 (by decide) rfl rfl ?_
  show q_WP mX3_become shX 0 [some (.inr (.inr p)), some (.inr (.inr q))] [] σ _
  refine q_aload_n (n := 1) dX3_become_0 rfl rfl ?_
  refine q_aload_n (n := 2) dX3_become_1 rfl rfl ?_
  refine q_getI (kI := 0) (n := 5) (by decide) dX3_become_2 rfl fX3_9 hq.1 rfl rfl ?_
  refine q_putI (kI := 0) (n := 8) dX3_become_5 rfl pX3_9 hp.1 rfl rfl ?_
  refine q_aload_n (n := 9) dX3_become_8 rfl rfl ?_
  refine q_aload_n (n := 10) dX3_become_9 rfl rfl ?_
  refine q_getIE (σ q 1) (kI := 1) (n := 13) (by decide) dX3_become_10 rfl fX3_15 hq.1 rfl rfl (by rw [q_up_n (by omega)]) ?_
  refine q_putI (kI := 1) (n := 16) dX3_become_13 rfl pX3_15 hp.1 rfl rfl ?_
  refine q_aload_n (n := 17) dX3_become_16 rfl rfl ?_
  refine q_aload_n (n := 18) dX3_become_17 rfl rfl ?_
  refine q_getIE (σ q 2) (kI := 2) (n := 21) (by decide) dX3_become_18 rfl fX3_18 hq.1 rfl rfl (by rw [q_up_n (by omega), q_up_n (by omega)]) ?_
  refine q_putI (kI := 2) (n := 24) dX3_become_21 rfl pX3_18 hp.1 rfl rfl ?_
  refine q_aload_n (n := 25) dX3_become_24 rfl rfl ?_
  refine q_getR (n := 28) dX3_become_25 rfl fX3_21 hq.1 rfl ?_
  refine q_iconst (n := 29) dX3_become_28 rfl (k := ?_)
  refine q_aload_n (n := 30) dX3_become_29 rfl rfl ?_
  refine q_getR (n := 33) dX3_become_30 rfl fX3_21 hp.1 rfl ?_
  refine q_iconst (n := 34) dX3_become_33 rfl (k := ?_)
  refine q_bipush (n := 36) dX3_become_34 rfl (k := ?_)
  refine q_copyi (n := 39) dX3_become_36 rfl lX3_40 ac_n ac_s ac_i hq.2.1 hp.2.1 (by decide) (by decide) (by decide) (by decide) (by decide) (by decide) (fun _ => Nat.le_of_ble_eq_true rfl) ?_
  refine q_aload_n (n := 40) dX3_become_39 rfl rfl ?_
  refine q_getR (n := 43) dX3_become_40 rfl fX3_25 hq.1 rfl ?_
  refine q_iconst (n := 44) dX3_become_43 rfl (k := ?_)
  refine q_aload_n (n := 45) dX3_become_44 rfl rfl ?_
  refine q_getR (n := 48) dX3_become_45 rfl fX3_25 hp.1 rfl ?_
  refine q_iconst (n := 49) dX3_become_48 rfl (k := ?_)
  refine q_bipush (n := 51) dX3_become_49 rfl (k := ?_)
  refine q_copyi (n := 54) dX3_become_51 rfl lX3_40 ac_n ac_s ac_i hq.2.2.1 hp.2.2.1 (by decide) (by decide) (by decide) (by decide) (by decide) (by decide) (fun _ => Nat.le_of_ble_eq_true rfl) ?_
  refine q_aload_n (n := 55) dX3_become_54 rfl rfl ?_
  refine q_getR (n := 58) dX3_become_55 rfl fX3_28 hq.1 rfl ?_
  refine q_iconst (n := 59) dX3_become_58 rfl (k := ?_)
  refine q_aload_n (n := 60) dX3_become_59 rfl rfl ?_
  refine q_getR (n := 63) dX3_become_60 rfl fX3_28 hp.1 rfl ?_
  refine q_iconst (n := 64) dX3_become_63 rfl (k := ?_)
  refine q_iconst (n := 65) dX3_become_64 rfl (k := ?_)
  refine q_copyi (n := 68) dX3_become_65 rfl lX3_40 ac_n ac_s ac_i hq.2.2.2.1 hp.2.2.2.1 (by decide) (by decide) (by decide) (by decide) (by decide) (by decide) (fun _ => Nat.le_of_ble_eq_true rfl) ?_
  refine q_aload_n (n := 69) dX3_become_68 rfl rfl ?_
  refine q_getR (n := 72) dX3_become_69 rfl fX3_31 hq.1 rfl ?_
  refine q_iconst (n := 73) dX3_become_72 rfl (k := ?_)
  refine q_aload_n (n := 74) dX3_become_73 rfl rfl ?_
  refine q_getR (n := 77) dX3_become_74 rfl fX3_31 hp.1 rfl ?_
  refine q_iconst (n := 78) dX3_become_77 rfl (k := ?_)
  refine q_iconst (n := 79) dX3_become_78 rfl (k := ?_)
  refine q_copyi (n := 82) dX3_become_79 rfl lX3_40 ac_n ac_s ac_i hq.2.2.2.2.1 hp.2.2.2.2.1 (by decide) (by decide) (by decide) (by decide) (by decide) (by decide) (fun _ => Nat.le_of_ble_eq_true rfl) ?_
  refine q_aload_n (n := 83) dX3_become_82 rfl rfl ?_
  refine q_getR (n := 86) dX3_become_83 rfl fX3_34 hq.1 rfl ?_
  refine q_iconst (n := 87) dX3_become_86 rfl (k := ?_)
  refine q_aload_n (n := 88) dX3_become_87 rfl rfl ?_
  refine q_getR (n := 91) dX3_become_88 rfl fX3_34 hp.1 rfl ?_
  refine q_iconst (n := 92) dX3_become_91 rfl (k := ?_)
  refine q_iconst (n := 93) dX3_become_92 rfl (k := ?_)
  refine q_copyi (n := 96) dX3_become_93 rfl lX3_40 ac_n ac_s ac_i hq.2.2.2.2.2.1 hp.2.2.2.2.2.1 (by decide) (by decide) (by decide) (by decide) (by decide) (by decide) (fun _ => Nat.le_of_ble_eq_true rfl) ?_
  refine q_aload_n (n := 97) dX3_become_96 rfl rfl ?_
  refine q_getR (n := 100) dX3_become_97 rfl fX3_37 hq.1 rfl ?_
  refine q_iconst (n := 101) dX3_become_100 rfl (k := ?_)
  refine q_aload_n (n := 102) dX3_become_101 rfl rfl ?_
  refine q_getR (n := 105) dX3_become_102 rfl fX3_37 hp.1 rfl ?_
  refine q_iconst (n := 106) dX3_become_105 rfl (k := ?_)
  refine q_iconst (n := 107) dX3_become_106 rfl (k := ?_)
  refine q_copyi (n := 110) dX3_become_107 rfl lX3_40 ac_n ac_s ac_i hq.2.2.2.2.2.2 hp.2.2.2.2.2.2 (by decide) (by decide) (by decide) (by decide) (by decide) (by decide) (fun _ => Nat.le_of_ble_eq_true rfl) ?_
  refine q_vret dX3_become_110 rfl ?_
  refine ⟨rfl, ?_, ?_, ?_, ?_, ?_⟩
  · intro k h0 h3
    rw [q_cpy_o (by omega), q_cpy_o (by omega), q_cpy_o (by omega), q_cpy_o (by omega), q_cpy_o (by omega), q_cpy_o (by omega)]
    rcases (by omega : k = 0 ∨ k = 1 ∨ k = 2) with rfl | rfl | rfl
    · rw [q_up_n (by omega), q_up_n (by omega), q_up_s]
    · rw [q_up_n (by omega), q_up_s]
    · rw [q_up_s]
  · intro j h0 h1
    rw [q_cpy_o (by omega), q_cpy_o (by omega), q_cpy_o (by omega), q_cpy_o (by omega), q_cpy_o (by omega), q_cpy_i ⟨by omega, by omega⟩, q_up_n (by omega), q_up_n (by omega), q_up_n (by omega), show (0 : Int) + (j - 0) = j by omega]
  · intro j h0 h1
    rw [q_cpy_o (by omega), q_cpy_o (by omega), q_cpy_o (by omega), q_cpy_o (by omega), q_cpy_i ⟨by omega, by omega⟩, q_cpy_o (by omega), q_up_n (by omega), q_up_n (by omega), q_up_n (by omega), show (0 : Int) + (j - 0) = j by omega]
  · intro a j h0 h1 h2 h3
    rcases (by omega : a = 3 ∨ a = 4 ∨ a = 5 ∨ a = 6) with rfl | rfl | rfl | rfl
    · rw [q_cpy_o (by omega), q_cpy_o (by omega), q_cpy_o (by omega), q_cpy_i ⟨by omega, by omega⟩, q_cpy_o (by omega), q_cpy_o (by omega), q_up_n (by omega), q_up_n (by omega), q_up_n (by omega), show (0 : Int) + (j - 0) = j by omega]
    · rw [q_cpy_o (by omega), q_cpy_o (by omega), q_cpy_i ⟨by omega, by omega⟩, q_cpy_o (by omega), q_cpy_o (by omega), q_cpy_o (by omega), q_up_n (by omega), q_up_n (by omega), q_up_n (by omega), show (0 : Int) + (j - 0) = j by omega]
    · rw [q_cpy_o (by omega), q_cpy_i ⟨by omega, by omega⟩, q_cpy_o (by omega), q_cpy_o (by omega), q_cpy_o (by omega), q_cpy_o (by omega), q_up_n (by omega), q_up_n (by omega), q_up_n (by omega), show (0 : Int) + (j - 0) = j by omega]
    · rw [q_cpy_i ⟨by omega, by omega⟩, q_cpy_o (by omega), q_cpy_o (by omega), q_cpy_o (by omega), q_cpy_o (by omega), q_cpy_o (by omega), q_up_n (by omega), q_up_n (by omega), q_up_n (by omega), show (0 : Int) + (j - 0) = j by omega]
  · intro c x hc
    rw [q_cpy_o (by omega), q_cpy_o (by omega), q_cpy_o (by omega), q_cpy_o (by omega), q_cpy_o (by omega), q_cpy_o (by omega), q_up_n (by omega), q_up_n (by omega), q_up_n (by omega)]
set_option maxRecDepth 100000 in
theorem lpX3_mo (σ : q_S) (v : Int) (hv : 0 ≤ v ∧ v < 4) (h8 : σ 1 1 ≤ 8) : ∀ (n : Nat) (i f : Int) (g : Int → Int), (n : Int) + i = σ 1 1 → 0 ≤ i → 0 ≤ f → f ≤ i + 1 → q_WP mX3_membersOf shX 26 [some (.inr (.inr 1)), some (.inl v), some (.inr (.inr 83)), some (.inl f), some (.inl i)] [] (q_row σ 83 g) (fun r σ' => r = some (.inl (mlp (σ 7 v) n i f g).1) ∧ σ' = q_row σ 83 (mlp (σ 7 v) n i f g).2) := by
  intro n
  induction n with
  | zero =>
    intro i f g hi h0 hf hfi
    refine q_iload (n := 28) dX3_membersOf_26 rfl rfl ?_
    refine q_aload_n (n := 29) dX3_membersOf_28 rfl rfl ?_
    refine q_getIE (σ 1 1) (kI := 1) (n := 32) (by decide) dX3_membersOf_29 rfl fX3_15 xi1 rfl rfl (by rw [q_row_o (by decide)]) ?_
    refine q_icmp_ge (n := 35) (t := 65) dX3_membersOf_32 rfl (by decide) (fun h32 => ?_) (fun h32 => ?_)
    · skip
      refine q_iload_n (n := 66) dX3_membersOf_65 rfl rfl ?_
      refine q_iret dX3_membersOf_66 rfl (fun _ => rfl) ?_
      exact ⟨rfl, rfl⟩
    · exact absurd h32 (by omega)
  | succ n ih =>
    intro i f g hi h0 hf hfi
    refine q_iload (n := 28) dX3_membersOf_26 rfl rfl ?_
    refine q_aload_n (n := 29) dX3_membersOf_28 rfl rfl ?_
    refine q_getIE (σ 1 1) (kI := 1) (n := 32) (by decide) dX3_membersOf_29 rfl fX3_15 xi1 rfl rfl (by rw [q_row_o (by decide)]) ?_
    refine q_icmp_ge (n := 35) (t := 65) dX3_membersOf_32 rfl (by decide) (fun h32 => ?_) (fun h32 => ?_)
    · exact absurd h32 (by omega)
    · skip
      refine q_iload_n (n := 36) dX3_membersOf_35 rfl rfl ?_
      refine q_aload_n (n := 37) dX3_membersOf_36 rfl rfl ?_
      refine q_alen (y := 4) (n := 38) dX3_membersOf_37 rfl xi83 (fun _ => rfl) rfl ⟨by decide, by decide⟩ ?_
      refine q_icmp_ge (n := 41) (t := 65) dX3_membersOf_38 rfl (by decide) (fun h38 => ?_) (fun h38 => ?_)
      · skip
        refine q_iload_n (n := 66) dX3_membersOf_65 rfl rfl ?_
        refine q_iret dX3_membersOf_66 rfl (fun _ => rfl) ?_
        rw [mlp, if_neg (by omega)]
        exact ⟨rfl, rfl⟩
      · skip
        refine q_aload_n (n := 42) dX3_membersOf_41 rfl rfl ?_
        refine q_iload_n (n := 43) dX3_membersOf_42 rfl rfl ?_
        refine q_iload (n := 45) dX3_membersOf_43 rfl rfl ?_
        refine q_v2D (n := 48) dX3_membersOf_45 rfl (zX3_goesOut _ _ _ (by omega)) vX3_goesOut lX3_46 rfl rfl xi1 rfl ?_
        refine q_if_eq (n := 51) (t := 59) dX3_membersOf_48 rfl (by decide) (fun h48 => ?_) (fun h48 => ?_)
        · have h48 := q_b0.mp h48
          rw [q_row_o (by decide)] at h48
          refine q_iinc (n := 62) dX3_membersOf_59 rfl (by decide) rfl (q_nwid ⟨by omega, by omega⟩) (q_s1_s (q_s1_s (q_s1_s (q_s1_1 rfl)))) ?_
          refine q_go (t := 26) dX3_membersOf_62 (by decide) ?_
          rw [mlp, if_pos (by omega)]
          first
            | (rw [if_neg h48]; exact ih _ _ _ (by omega) (by omega) (by omega) (by omega))
            | (rw [if_pos h48, q_row_up]; exact ih _ _ _ (by omega) (by omega) (by omega) (by omega))
        · have h48 := q_b1.mp h48
          rw [q_row_o (by decide)] at h48
          refine q_aload_n (n := 52) dX3_membersOf_51 rfl rfl ?_
          refine q_iload_n (n := 53) dX3_membersOf_52 rfl rfl ?_
          refine q_iload (n := 55) dX3_membersOf_53 rfl rfl ?_
          refine q_iastore (n := 56) dX3_membersOf_55 rfl xi83 ⟨by omega, by omega⟩ ?_
          refine q_iinc (n := 59) dX3_membersOf_56 rfl (by decide) rfl (q_nwid ⟨by omega, by omega⟩) (q_s1_s (q_s1_s (q_s1_1 rfl))) ?_
          refine q_iinc (n := 62) dX3_membersOf_59 rfl (by decide) rfl (q_nwid ⟨by omega, by omega⟩) (q_s1_s (q_s1_s (q_s1_s (q_s1_1 rfl)))) ?_
          refine q_go (t := 26) dX3_membersOf_62 (by decide) ?_
          rw [mlp, if_pos (by omega)]
          first
            | (rw [if_neg h48]; exact ih _ _ _ (by omega) (by omega) (by omega) (by omega))
            | (rw [if_pos h48, q_row_up]; exact ih _ _ _ (by omega) (by omega) (by omega) (by omega))
set_option maxRecDepth 100000 in
theorem zX3_membersOf (v : Int) (σ : q_S) (hv : 0 ≤ v ∧ v < 4) (h8 : 0 ≤ σ 1 1 ∧ σ 1 1 ≤ 8) : q_Ct mX3_membersOf shX [.inr (.inr 1), .inl v, .inr (.inr 83)] σ (fun r σ' => r = some (.inl ((mem0 (σ 6 v) (σ 7 v) (σ 1 1) (σ 83)).1)) ∧ σ' = q_row σ 83 (mem0 (σ 6 v) (σ 7 v) (σ 1 1) (σ 83)).2) := by
  refine q_ct 2 (by decide) rfl rfl ?_
  show q_WP mX3_membersOf shX 0 [some (.inr (.inr 1)), some (.inl v), some (.inr (.inr 83)), none, none] [] σ _
  refine q_iconst (n := 1) dX3_membersOf_0 rfl (k := ?_)
  refine q_istore_n (n := 2) dX3_membersOf_1 rfl (by decide) (q_s1_s (q_s1_s (q_s1_1 rfl))) ?_
  refine q_aload_n (n := 3) dX3_membersOf_2 rfl rfl ?_
  refine q_getR (n := 6) dX3_membersOf_3 rfl fX3_34 xi1 rfl ?_
  refine q_iload_n (n := 7) dX3_membersOf_6 rfl rfl ?_
  refine q_iaload (n := 8) dX3_membersOf_7 rfl xi6 ⟨by omega, by omega⟩ ?_
  refine q_iconst (n := 9) dX3_membersOf_8 rfl (k := ?_)
  refine q_icmp_eq (n := 12) (t := 23) dX3_membersOf_9 rfl (by decide) (fun h9 => ?_) (fun h9 => ?_)
  · skip
    refine q_iconst (n := 24) dX3_membersOf_23 rfl (k := ?_)
    refine q_istore (n := 26) dX3_membersOf_24 rfl (by decide) (q_s1_s (q_s1_s (q_s1_s (q_s1_1 rfl)))) ?_
    unfold mem0
    first
      | (rw [if_pos (by assumption)]; exact q_cut _ _ (q_row σ 83 (σ 83)) rfl rfl q_row_0.symm (lpX3_mo σ v hv h8.2 _ 0 0 _ (by omega) (by omega) (by omega) (by omega)))
      | (rw [if_neg (by assumption), q_row_1]; exact lpX3_mo σ v hv h8.2 _ 0 1 _ (by omega) (by omega) (by omega) (by omega))
  · skip
    refine q_aload_n (n := 13) dX3_membersOf_12 rfl rfl ?_
    refine q_iconst (n := 14) dX3_membersOf_13 rfl (k := ?_)
    refine q_aload_n (n := 15) dX3_membersOf_14 rfl rfl ?_
    refine q_getR (n := 18) dX3_membersOf_15 rfl fX3_34 xi1 rfl ?_
    refine q_iload_n (n := 19) dX3_membersOf_18 rfl rfl ?_
    refine q_iaload (n := 20) dX3_membersOf_19 rfl xi6 ⟨by omega, by omega⟩ ?_
    refine q_iastore (n := 21) dX3_membersOf_20 rfl xi83 ⟨by omega, by omega⟩ ?_
    refine q_iconst (n := 22) dX3_membersOf_21 rfl (k := ?_)
    refine q_istore_n (n := 23) dX3_membersOf_22 rfl (by decide) (q_s1_s (q_s1_s (q_s1_1 rfl))) ?_
    refine q_iconst (n := 24) dX3_membersOf_23 rfl (k := ?_)
    refine q_istore (n := 26) dX3_membersOf_24 rfl (by decide) (q_s1_s (q_s1_s (q_s1_s (q_s1_1 rfl)))) ?_
    unfold mem0
    first
      | (rw [if_pos (by assumption)]; exact q_cut _ _ (q_row σ 83 (σ 83)) rfl rfl q_row_0.symm (lpX3_mo σ v hv h8.2 _ 0 0 _ (by omega) (by omega) (by omega) (by omega)))
      | (rw [if_neg (by assumption), q_row_1]; exact lpX3_mo σ v hv h8.2 _ 0 1 _ (by omega) (by omega) (by omega) (by omega))
set_option maxRecDepth 100000 in
theorem zX1_draft (σ : q_S) (hn : 0 ≤ σ 8 1 ∧ σ 8 1 < 9) : q_Ct mX1_draft shX [.inr (.inr 8), .inr (.inr 1)] σ (fun r σ' => r = none ∧ (pcopied σ σ' 1 (10 + 7 * σ 8 1))) := by
  refine q_ct 0 (by decide) rfl rfl ?_
  show q_WP mX1_draft shX 0 [some (.inr (.inr 8)), some (.inr (.inr 1))] [] σ _
  refine q_aload_n (n := 1) dX1_draft_0 rfl rfl ?_
  refine q_getR (n := 4) dX1_draft_1 rfl fX1_13 xi8 rfl ?_
  refine q_aload_n (n := 5) dX1_draft_4 rfl rfl ?_
  refine q_getI (kI := 1) (n := 8) (by decide) dX1_draft_5 rfl fX1_17 xi8 rfl rfl ?_
  refine q_aaload (n := 9) dX1_draft_8 rfl xi9 (fun _ => rfl) ⟨by omega, by omega⟩ ?_
  refine q_aload_n (n := 10) dX1_draft_9 rfl rfl ?_
  refine q_v1W (n := 13) dX1_draft_10 rfl (zX3_become _ _ _ (picN _ hn) pic1 (by omega)) vX3_become lX1_25 rfl rfl (picN _ hn).1 rfl (fun σ10 h10 => ?_)
  refine q_vret dX1_draft_13 rfl ?_
  exact ⟨rfl, h10⟩
set_option maxRecDepth 100000 in
theorem zX1_layDraftBack (σ : q_S) (hn : 0 ≤ σ 8 1 ∧ σ 8 1 < 9) : q_Ct mX1_layDraftBack shX [.inr (.inr 8), .inr (.inr 1)] σ (fun r σ' => r = none ∧ (pcopied σ σ' (10 + 7 * σ 8 1) 1)) := by
  refine q_ct 0 (by decide) rfl rfl ?_
  show q_WP mX1_layDraftBack shX 0 [some (.inr (.inr 8)), some (.inr (.inr 1))] [] σ _
  refine q_aload_n (n := 1) dX1_layDraftBack_0 rfl rfl ?_
  refine q_aload_n (n := 2) dX1_layDraftBack_1 rfl rfl ?_
  refine q_getR (n := 5) dX1_layDraftBack_2 rfl fX1_13 xi8 rfl ?_
  refine q_aload_n (n := 6) dX1_layDraftBack_5 rfl rfl ?_
  refine q_getI (kI := 1) (n := 9) (by decide) dX1_layDraftBack_6 rfl fX1_17 xi8 rfl rfl ?_
  refine q_aaload (n := 10) dX1_layDraftBack_9 rfl xi9 (fun _ => rfl) ⟨by omega, by omega⟩ ?_
  refine q_v1W (n := 13) dX1_layDraftBack_10 rfl (zX3_become _ _ _ pic1 (picN _ hn) (by omega)) vX3_become lX1_25 rfl rfl xi1 rfl (fun σ10 h10 => ?_)
  refine q_vret dX1_layDraftBack_13 rfl ?_
  exact ⟨rfl, h10⟩
set_option maxRecDepth 100000 in
theorem zX1_forget (σ : q_S) : q_Ct mX1_forget shX [.inr (.inr 8)] σ (fun r σ' => r = none ∧ σ' = q_up σ 8 2 0) := by
  refine q_ct 0 (by decide) rfl rfl ?_
  show q_WP mX1_forget shX 0 [some (.inr (.inr 8))] [] σ _
  refine q_aload_n (n := 1) dX1_forget_0 rfl rfl ?_
  refine q_iconst (n := 2) dX1_forget_1 rfl (k := ?_)
  refine q_putI (kI := 2) (n := 5) dX1_forget_2 rfl pX1_21 xi8 rfl rfl ?_
  refine q_vret dX1_forget_5 rfl ?_
  exact ⟨rfl, rfl⟩
set_option maxRecDepth 100000 in
theorem zX1_settle (a : Int) (σ : q_S) (hn : 0 ≤ σ 8 1 ∧ σ 8 1 < 9) (hc : 0 ≤ σ 8 2 ∧ σ 8 2 ≤ 8) : q_Ct mX1_settle shX [.inr (.inr 8), .inl a] σ (fun r σ' => ∃ v, r = some v ∧ (0 ≤ a ∧ v = .inl a ∧ σ' = q_up (q_up σ 8 1 ((σ 8 1 + 1).tmod 9)) 8 2 (if 8 < σ 8 2 + 1 then 8 else σ 8 2 + 1) ∨ a < 0 ∧ v = .inl a ∧ σ' = σ)) := by
  refine q_ct 0 (by decide) rfl rfl ?_
  show q_WP mX1_settle shX 0 [some (.inr (.inr 8)), some (.inl a)] [] σ _
  refine q_iload_n (n := 1) dX1_settle_0 rfl rfl ?_
  refine q_if_lt (n := 4) (t := 32) dX1_settle_1 rfl (by decide) (fun h1 => ?_) (fun h1 => ?_)
  · skip
    refine q_iload_n (n := 33) dX1_settle_32 rfl rfl ?_
    refine q_iret dX1_settle_33 rfl (fun _ => rfl) ?_
    first | exact ⟨_, rfl, Or.inr ⟨by omega, rfl, rfl⟩⟩ | exact ⟨_, rfl, Or.inl ⟨by omega, rfl, rfl⟩⟩
  · skip
    refine q_aload_n (n := 5) dX1_settle_4 rfl rfl ?_
    refine q_aload_n (n := 6) dX1_settle_5 rfl rfl ?_
    refine q_getI (kI := 1) (n := 9) (by decide) dX1_settle_6 rfl fX1_17 xi8 rfl rfl ?_
    refine q_iconst (n := 10) dX1_settle_9 rfl (k := ?_)
    refine q_iaddS (n := 11) dX1_settle_10 rfl ⟨by omega, by omega⟩ ?_
    refine q_bipush (n := 13) dX1_settle_11 rfl (k := ?_)
    refine q_irem (n := 14) dX1_settle_13 rfl (by omega) ?_
    refine q_putI (kI := 1) (n := 17) dX1_settle_14 rfl pX1_17 xi8 rfl rfl ?_
    refine q_aload_n (n := 18) dX1_settle_17 rfl rfl ?_
    refine q_aload_n (n := 19) dX1_settle_18 rfl rfl ?_
    refine q_getIE (σ 8 2) (kI := 2) (n := 22) (by decide) dX1_settle_19 rfl fX1_21 xi8 rfl rfl (by simp [q_up]) ?_
    refine q_iconst (n := 23) dX1_settle_22 rfl (k := ?_)
    refine q_iaddS (n := 24) dX1_settle_23 rfl ⟨by omega, by omega⟩ ?_
    refine q_bipush (n := 26) dX1_settle_24 rfl (k := ?_)
    refine q_mminI (n := 29) dX1_settle_26 rfl lmX1_29 rfl rfl ?_
    refine q_putI (kI := 2) (n := 32) dX1_settle_29 rfl pX1_21 xi8 rfl rfl ?_
    refine q_iload_n (n := 33) dX1_settle_32 rfl rfl ?_
    refine q_iret dX1_settle_33 rfl (fun _ => rfl) ?_
    first | exact ⟨_, rfl, Or.inr ⟨by omega, rfl, rfl⟩⟩ | exact ⟨_, rfl, Or.inl ⟨by omega, rfl, rfl⟩⟩
set_option maxRecDepth 100000 in
theorem zX1_takeBack (σ : q_S) (hn : 0 ≤ σ 8 1 ∧ σ 8 1 < 9) (hc : 0 ≤ σ 8 2 ∧ σ 8 2 ≤ 8) : q_Ct mX1_takeBack shX [.inr (.inr 8), .inr (.inr 1)] σ (fun r σ' => ∃ v, r = some v ∧ (σ 8 2 = 0 ∧ v = .inl 0 ∧ σ' = σ ∨ σ 8 2 ≠ 0 ∧ v = .inl 1 ∧ pcopied (q_up (q_up σ 8 1 ((σ 8 1 + 9 - 1).tmod 9)) 8 2 (σ 8 2 - 1)) σ' (10 + 7 * ((σ 8 1 + 9 - 1).tmod 9)) 1)) := by
  refine q_ct 0 (by decide) rfl rfl ?_
  show q_WP mX1_takeBack shX 0 [some (.inr (.inr 8)), some (.inr (.inr 1))] [] σ _
  have hnx : 0 ≤ (σ 8 1 + 9 - 1).tmod 9 ∧ (σ 8 1 + 9 - 1).tmod 9 < 9 := ⟨Int.tmod_nonneg _ (by omega), Int.tmod_lt_of_pos _ (by decide)⟩
  refine q_aload_n (n := 1) dX1_takeBack_0 rfl rfl ?_
  refine q_getI (kI := 2) (n := 4) (by decide) dX1_takeBack_1 rfl fX1_21 xi8 rfl rfl ?_
  refine q_if_ne (n := 7) (t := 9) dX1_takeBack_4 rfl (by decide) (fun h4 => ?_) (fun h4 => ?_)
  · skip
    refine q_aload_n (n := 10) dX1_takeBack_9 rfl rfl ?_
    refine q_aload_n (n := 11) dX1_takeBack_10 rfl rfl ?_
    refine q_getI (kI := 1) (n := 14) (by decide) dX1_takeBack_11 rfl fX1_17 xi8 rfl rfl ?_
    refine q_bipush (n := 16) dX1_takeBack_14 rfl (k := ?_)
    refine q_iaddS (n := 17) dX1_takeBack_16 rfl ⟨by omega, by omega⟩ ?_
    refine q_iconst (n := 18) dX1_takeBack_17 rfl (k := ?_)
    refine q_isubS (n := 19) dX1_takeBack_18 rfl ⟨by omega, by omega⟩ ?_
    refine q_bipush (n := 21) dX1_takeBack_19 rfl (k := ?_)
    refine q_irem (n := 22) dX1_takeBack_21 rfl (by omega) ?_
    refine q_putI (kI := 1) (n := 25) dX1_takeBack_22 rfl pX1_17 xi8 rfl rfl ?_
    refine q_aload_n (n := 26) dX1_takeBack_25 rfl rfl ?_
    refine q_dup (n := 27) dX1_takeBack_26 rfl rfl ?_
    refine q_getIE (σ 8 2) (kI := 2) (n := 30) (by decide) dX1_takeBack_27 rfl fX1_21 xi8 rfl rfl (by simp [q_up]) ?_
    refine q_iconst (n := 31) dX1_takeBack_30 rfl (k := ?_)
    refine q_isubS (n := 32) dX1_takeBack_31 rfl ⟨by omega, by omega⟩ ?_
    refine q_putI (kI := 2) (n := 35) dX1_takeBack_32 rfl pX1_21 xi8 rfl rfl ?_
    refine q_aload_n (n := 36) dX1_takeBack_35 rfl rfl ?_
    refine q_aload_n (n := 37) dX1_takeBack_36 rfl rfl ?_
    refine q_getR (n := 40) dX1_takeBack_37 rfl fX1_13 xi8 rfl ?_
    refine q_aload_n (n := 41) dX1_takeBack_40 rfl rfl ?_
    refine q_getIE ((σ 8 1 + 9 - 1).tmod 9) (kI := 1) (n := 44) (by decide) dX1_takeBack_41 rfl fX1_17 xi8 rfl rfl (by simp [q_up]) ?_
    refine q_aaload (n := 45) dX1_takeBack_44 rfl xi9 (fun _ => rfl) hnx ?_
    refine q_v1W (n := 48) dX1_takeBack_45 rfl (zX3_become _ _ _ pic1 (picN _ hnx) (by omega)) vX3_become lX1_25 rfl rfl xi1 rfl (fun σ45 h45 => ?_)
    refine q_iconst (n := 49) dX1_takeBack_48 rfl (k := ?_)
    refine q_iret dX1_takeBack_49 rfl (fun _ => rfl) ?_
    first | exact ⟨_, rfl, Or.inl ⟨by omega, rfl, rfl⟩⟩ | exact ⟨_, rfl, Or.inr ⟨by omega, rfl, h45⟩⟩
  · skip
    refine q_iconst (n := 8) dX1_takeBack_7 rfl (k := ?_)
    refine q_iret dX1_takeBack_8 rfl (fun _ => rfl) ?_
    first | exact ⟨_, rfl, Or.inl ⟨by omega, rfl, rfl⟩⟩ | exact ⟨_, rfl, Or.inr ⟨by omega, rfl, h45⟩⟩
