theorem tp_self {σ : q_S} : tp σ (σ 91 2) (σ 93) = σ := by
  unfold tp
  rw [up_self]
  exact q_row_0
def fPaper (m : Int) (g : Int → Int) (i : Int) : Int := if i < 0 then -1 else if i < m then g i else -2
def fVertexOf (nv : Int) (xs ys as os : Int → Int) (v w : Int) : Int := if ¬ (0 ≤ v ∧ v < nv) then -1 else if w = 0 then xs v + 20 else if w = 1 then ys v + 20 else if w = 2 then (if as v = -1 then 8 else as v) else if w = 3 then os v else -1
def fNumbers (k w : Int) : Int := if ¬ (0 ≤ k ∧ k < 12) ∨ w < 0 ∨ 4 < w then -1 else if w = 4 then q_num.getD (5 * k + 4).toNat 0 else q_num.getD (5 * k + w).toNat 0 + 1
def fCount (fd nt nv : Int) (kd : Int → Int) (c l m w : Int) : Int := if w = 0 then fd else if w = 1 then nt else if w = 2 then nv else if w = 3 then tld kd nt.toNat 0 0 else if w = 4 then c else if w = 5 then l else if w = 6 then m else -1
theorem num_rng {k j : Int} (hk : 0 ≤ k ∧ k < 12) (hj : 0 ≤ j ∧ j < 5) : q_bd (q_num.getD (5 * k + j).toNat 0) 120 := by
  have h : ∀ (k : Fin 12) (j : Fin 5), -120 ≤ q_num.getD (5 * k.val + j.val) 0 ∧ q_num.getD (5 * k.val + j.val) 0 ≤ 120 := by decide
  have h2 := h ⟨k.toNat, by omega⟩ ⟨j.toNat, by omega⟩
  have e : (5 * k + j).toNat = 5 * k.toNat + j.toNat := by omega
  rw [e]
  exact h2
set_option maxRecDepth 100000 in
theorem zX7_paper (i : Int) (σ s : q_S) (hI : IX σ) : q_Ct mX7_paper shX [.inr (.inr 0), .inl i] (ov σ s) (fun r σ' => r = some (.inl (fPaper (σ 0 11) (σ 94) i)) ∧ ∃ s', σ' = ov σ s') := by
  refine q_ct 0 (by decide) rfl rfl ?_
  show q_WP mX7_paper shX 0 [some (.inr (.inr 0)), some (.inl i)] [] (ov σ s) _
  have hI0 := hI
  obtain ⟨⟨hfd, hnt, hnv, hpt, hkd, hvx⟩, hnx, hcg, hln, hby, hpb, hrw⟩ := hI
  refine q_iload_n (n := 1) dX7_paper_0 rfl rfl ?_
  refine q_if_ge (n := 4) (t := 6) dX7_paper_1 rfl (by decide) (fun h1 => ?_) (fun h1 => ?_)
  · skip
    refine q_iload_n (n := 7) dX7_paper_6 rfl rfl ?_
    refine q_aload_n (n := 8) dX7_paper_7 rfl rfl ?_
    refine q_getIF (σ 0) (kI := 11) (n := 11) (by decide) dX7_paper_8 rfl fX7_70 xi0 rfl rfl rfl ?_
    refine q_icmp_ge (n := 14) (t := 23) dX7_paper_11 rfl (by decide) (fun h11 => ?_) (fun h11 => ?_)
    · skip
      refine q_bipush (n := 25) dX7_paper_23 rfl (k := ?_)
      refine q_iret dX7_paper_25 rfl (fun _ => rfl) ?_
      refine ⟨congrArg some ((congrArg Sum.inl (Eq.symm ?_))), _, rfl⟩
      unfold fPaper
      repeat (first | rw [if_pos (by first | assumption | omega)] | rw [if_neg (by first | assumption | omega)])
      try (first | rfl | omega)
    · skip
      refine q_aload_n (n := 15) dX7_paper_14 rfl rfl ?_
      refine q_getR (n := 18) dX7_paper_15 rfl fX7_66 xi0 rfl ?_
      refine q_iload_n (n := 19) dX7_paper_18 rfl rfl ?_
      refine q_caloadF (σ 94) (n := 20) dX7_paper_19 rfl xi94 ⟨by omega, by omega⟩ rfl ?_
      refine q_go (t := 25) dX7_paper_20 (by decide) ?_
      refine q_iret dX7_paper_25 rfl (fun _ => rfl) ?_
      refine ⟨congrArg some ((congrArg Sum.inl (Eq.symm ?_))), _, rfl⟩
      unfold fPaper
      repeat (first | rw [if_pos (by first | assumption | omega)] | rw [if_neg (by first | assumption | omega)])
      try (first | rfl | omega)
  · skip
    refine q_iconst (n := 5) dX7_paper_4 rfl (k := ?_)
    refine q_iret dX7_paper_5 rfl (fun _ => rfl) ?_
    refine ⟨congrArg some ((congrArg Sum.inl (Eq.symm ?_))), _, rfl⟩
    unfold fPaper
    repeat (first | rw [if_pos (by first | assumption | omega)] | rw [if_neg (by first | assumption | omega)])
    try (first | rfl | omega)
set_option maxRecDepth 100000 in
theorem zX7_printLetter (c : Int) (σ s : q_S) (h : 0 ≤ σ 0 11 ∧ σ 0 11 < 6) (hc : 0 ≤ c ∧ c < 65536) : q_Ct mX7_printLetter shX [.inr (.inr 0), .inl c] (ov σ s) (fun r σ' => r = none ∧ σ' = ov (q_up (q_up σ 94 (σ 0 11) c) 0 11 (σ 0 11 + 1)) s) := by
  refine q_ct 0 (by decide) rfl rfl ?_
  show q_WP mX7_printLetter shX 0 [some (.inr (.inr 0)), some (.inl c)] [] (ov σ s) _
  refine q_aload_n (n := 1) dX7_printLetter_0 rfl rfl ?_
  refine q_getIF (σ 0) (kI := 11) (n := 4) (by decide) dX7_printLetter_1 rfl fX7_70 xi0 rfl rfl rfl ?_
  refine q_bipush (n := 6) dX7_printLetter_4 rfl (k := ?_)
  refine q_icmp_ge (n := 9) (t := 29) dX7_printLetter_6 rfl (by decide) (fun h6 => ?_) (fun h6 => ?_)
  · exact absurd h6 (by omega)
  · skip
    refine q_aload_n (n := 10) dX7_printLetter_9 rfl rfl ?_
    refine q_getR (n := 13) dX7_printLetter_10 rfl fX7_66 xi0 rfl ?_
    refine q_aload_n (n := 14) dX7_printLetter_13 rfl rfl ?_
    refine q_getIF (σ 0) (kI := 11) (n := 17) (by decide) dX7_printLetter_14 rfl fX7_70 xi0 rfl rfl rfl ?_
    refine q_iload_n (n := 18) dX7_printLetter_17 rfl rfl ?_
    refine q_castore (n := 19) dX7_printLetter_18 rfl xi94 ⟨by omega, by omega⟩ ⟨by omega, by omega⟩ ?_
    rw [ov_upn rfl]
    refine q_aload_n (n := 20) dX7_printLetter_19 rfl rfl ?_
    refine q_dup (n := 21) dX7_printLetter_20 rfl rfl ?_
    refine q_getIE (σ 0 11) (kI := 11) (n := 24) (by decide) dX7_printLetter_21 rfl fX7_70 xi0 rfl rfl rfl ?_
    refine q_iconst (n := 25) dX7_printLetter_24 rfl (k := ?_)
    refine q_iaddS (n := 26) dX7_printLetter_25 rfl ⟨by omega, by omega⟩ ?_
    refine q_putI (kI := 11) (n := 29) dX7_printLetter_26 rfl pX7_70 xi0 rfl rfl ?_
    rw [ov_upn rfl]
    refine q_vret dX7_printLetter_29 rfl ?_
    exact ⟨rfl, rfl⟩
set_option maxRecDepth 100000 in
theorem zX7_vertexOf (v x : Int) (σ s : q_S) (hI : IX σ) : q_Ct mX7_vertexOf shX [.inr (.inr 0), .inl v, .inl x] (ov σ s) (fun r σ' => r = some (.inl (fVertexOf (σ 1 2) (σ 4) (σ 5) (σ 6) (σ 7) v x)) ∧ ∃ s', σ' = ov σ s') := by
  refine q_ct 0 (by decide) rfl rfl ?_
  show q_WP mX7_vertexOf shX 0 [some (.inr (.inr 0)), some (.inl v), some (.inl x)] [] (ov σ s) _
  have hI0 := hI
  obtain ⟨⟨hfd, hnt, hnv, hpt, hkd, hvx⟩, hnx, hcg, hln, hby, hpb, hrw⟩ := hI
  have hv3 := hvx v
  refine q_aload_n (n := 1) dX7_vertexOf_0 rfl rfl ?_
  refine q_getR (n := 4) dX7_vertexOf_1 rfl fX7_12 xi0 rfl ?_
  refine q_iload_n (n := 5) dX7_vertexOf_4 rfl rfl ?_
  refine q_v1D (n := 8) dX7_vertexOf_5 rfl (zX3_hasVertex 1 _ _ pic1) vX3_hasVertex lX7_135 rfl rfl xi1 rfl ?_
  refine q_if_ne (n := 11) (t := 13) dX7_vertexOf_8 rfl (by decide) (fun h8 => ?_) (fun h8 => ?_)
  · have h8 := q_b1.mp h8
    have h8 : 0 ≤ v ∧ v < σ 1 2 := h8
    obtain ⟨hvx1, hvx2, hvx3⟩ := hv3 h8.1 h8.2
    unfold q_bd at hvx1 hvx2
    refine q_iload_n (n := 14) dX7_vertexOf_13 rfl rfl ?_
    rcases (by omega : (x < 0 ∨ 3 < x) ∨ x = 0 ∨ x = 1 ∨ x = 2 ∨ x = 3) with h14 | h14 | h14 | h14 | h14
    · refine q_tableOut (t := 108) dX7_vertexOf_14 h14 (by decide) ?_
      refine q_iconst (n := 109) dX7_vertexOf_108 rfl (k := ?_)
      refine q_iret dX7_vertexOf_109 rfl (fun _ => rfl) ?_
      refine ⟨congrArg some ((congrArg Sum.inl (Eq.symm ?_))), _, rfl⟩
      unfold fVertexOf
      repeat (first | rw [if_pos (by first | assumption | omega)] | rw [if_neg (by first | assumption | omega)])
      try (first | rfl | omega)
    · refine q_topI 0 h14 ?_
      refine q_tableIn (t := 44) dX7_vertexOf_14 (by decide) (by decide) rfl (by decide) ?_
      refine q_aload_n (n := 45) dX7_vertexOf_44 rfl rfl ?_
      refine q_getR (n := 48) dX7_vertexOf_45 rfl fX7_12 xi0 rfl ?_
      refine q_getR (n := 51) dX7_vertexOf_48 rfl fX7_138 xi1 rfl ?_
      refine q_iload_n (n := 52) dX7_vertexOf_51 rfl rfl ?_
      refine q_ialoadF (σ 4) (n := 53) dX7_vertexOf_52 rfl xi4 ⟨by omega, by omega⟩ rfl ?_
      refine q_bipush (n := 55) dX7_vertexOf_53 rfl (k := ?_)
      refine q_iaddS (n := 56) dX7_vertexOf_55 rfl ⟨by omega, by omega⟩ ?_
      refine q_iret dX7_vertexOf_56 rfl (fun _ => rfl) ?_
      refine ⟨congrArg some ((congrArg Sum.inl (Eq.symm ?_))), _, rfl⟩
      unfold fVertexOf
      repeat (first | rw [if_pos (by first | assumption | omega)] | rw [if_neg (by first | assumption | omega)])
      try (first | rfl | omega)
    · refine q_topI 1 h14 ?_
      refine q_tableIn (t := 57) dX7_vertexOf_14 (by decide) (by decide) rfl (by decide) ?_
      refine q_aload_n (n := 58) dX7_vertexOf_57 rfl rfl ?_
      refine q_getR (n := 61) dX7_vertexOf_58 rfl fX7_12 xi0 rfl ?_
      refine q_getR (n := 64) dX7_vertexOf_61 rfl fX7_141 xi1 rfl ?_
      refine q_iload_n (n := 65) dX7_vertexOf_64 rfl rfl ?_
      refine q_ialoadF (σ 5) (n := 66) dX7_vertexOf_65 rfl xi5 ⟨by omega, by omega⟩ rfl ?_
      refine q_bipush (n := 68) dX7_vertexOf_66 rfl (k := ?_)
      refine q_iaddS (n := 69) dX7_vertexOf_68 rfl ⟨by omega, by omega⟩ ?_
      refine q_iret dX7_vertexOf_69 rfl (fun _ => rfl) ?_
      refine ⟨congrArg some ((congrArg Sum.inl (Eq.symm ?_))), _, rfl⟩
      unfold fVertexOf
      repeat (first | rw [if_pos (by first | assumption | omega)] | rw [if_neg (by first | assumption | omega)])
      try (first | rfl | omega)
    · refine q_topI 2 h14 ?_
      refine q_tableIn (t := 70) dX7_vertexOf_14 (by decide) (by decide) rfl (by decide) ?_
      refine q_aload_n (n := 71) dX7_vertexOf_70 rfl rfl ?_
      refine q_getR (n := 74) dX7_vertexOf_71 rfl fX7_12 xi0 rfl ?_
      refine q_getR (n := 77) dX7_vertexOf_74 rfl fX7_144 xi1 rfl ?_
      refine q_iload_n (n := 78) dX7_vertexOf_77 rfl rfl ?_
      refine q_ialoadF (σ 6) (n := 79) dX7_vertexOf_78 rfl xi6 ⟨by omega, by omega⟩ rfl ?_
      refine q_iconst (n := 80) dX7_vertexOf_79 rfl (k := ?_)
      refine q_icmp_ne (n := 83) (t := 88) dX7_vertexOf_80 rfl (by decide) (fun h80 => ?_) (fun h80 => ?_)
      · skip
        refine q_aload_n (n := 89) dX7_vertexOf_88 rfl rfl ?_
        refine q_getR (n := 92) dX7_vertexOf_89 rfl fX7_12 xi0 rfl ?_
        refine q_getR (n := 95) dX7_vertexOf_92 rfl fX7_144 xi1 rfl ?_
        refine q_iload_n (n := 96) dX7_vertexOf_95 rfl rfl ?_
        refine q_ialoadF (σ 6) (n := 97) dX7_vertexOf_96 rfl xi6 ⟨by omega, by omega⟩ rfl ?_
        refine q_iret dX7_vertexOf_97 rfl (fun _ => rfl) ?_
        refine ⟨congrArg some ((congrArg Sum.inl (Eq.symm ?_))), _, rfl⟩
        unfold fVertexOf
        repeat (first | rw [if_pos (by first | assumption | omega)] | rw [if_neg (by first | assumption | omega)])
        try (first | rfl | omega)
      · skip
        refine q_bipush (n := 85) dX7_vertexOf_83 rfl (k := ?_)
        refine q_go (t := 97) dX7_vertexOf_85 (by decide) ?_
        refine q_iret dX7_vertexOf_97 rfl (fun _ => rfl) ?_
        refine ⟨congrArg some ((congrArg Sum.inl (Eq.symm ?_))), _, rfl⟩
        unfold fVertexOf
        repeat (first | rw [if_pos (by first | assumption | omega)] | rw [if_neg (by first | assumption | omega)])
        try (first | rfl | omega)
    · refine q_topI 3 h14 ?_
      refine q_tableIn (t := 98) dX7_vertexOf_14 (by decide) (by decide) rfl (by decide) ?_
      refine q_aload_n (n := 99) dX7_vertexOf_98 rfl rfl ?_
      refine q_getR (n := 102) dX7_vertexOf_99 rfl fX7_12 xi0 rfl ?_
      refine q_getR (n := 105) dX7_vertexOf_102 rfl fX7_147 xi1 rfl ?_
      refine q_iload_n (n := 106) dX7_vertexOf_105 rfl rfl ?_
      refine q_ialoadF (σ 7) (n := 107) dX7_vertexOf_106 rfl xi7 ⟨by omega, by omega⟩ rfl ?_
      refine q_iret dX7_vertexOf_107 rfl (fun _ => rfl) ?_
      refine ⟨congrArg some ((congrArg Sum.inl (Eq.symm ?_))), _, rfl⟩
      unfold fVertexOf
      repeat (first | rw [if_pos (by first | assumption | omega)] | rw [if_neg (by first | assumption | omega)])
      try (first | rfl | omega)
  · have h8 := q_b0.mp h8
    have h8 : ¬ (0 ≤ v ∧ v < σ 1 2) := h8
    refine q_iconst (n := 12) dX7_vertexOf_11 rfl (k := ?_)
    refine q_iret dX7_vertexOf_12 rfl (fun _ => rfl) ?_
    refine ⟨congrArg some ((congrArg Sum.inl (Eq.symm ?_))), _, rfl⟩
    unfold fVertexOf
    repeat (first | rw [if_pos (by first | assumption | omega)] | rw [if_neg (by first | assumption | omega)])
    try (first | rfl | omega)
set_option maxRecDepth 100000 in
theorem zX7_numbers (k x : Int) (σ s : q_S) (hI : IX σ) : q_Ct mX7_numbers shX [.inr (.inr 0), .inl k, .inl x] (ov σ s) (fun r σ' => r = some (.inl (fNumbers k x)) ∧ ∃ s', σ' = ov σ s') := by
  refine q_ct 0 (by decide) rfl rfl ?_
  show q_WP mX7_numbers shX 0 [some (.inr (.inr 0)), some (.inl k), some (.inl x)] [] (ov σ s) _
  have hr := num_rng (k := k) (j := x)
  refine q_iload_n (n := 1) dX7_numbers_0 rfl rfl ?_
  refine q_c1D (n := 4) dX7_numbers_1 rfl (zX7_isKind _ _) vX7_isKind lX7_150 rfl rfl ?_
  refine q_if_eq (n := 7) (t := 16) dX7_numbers_4 rfl (by decide) (fun h4 => ?_) (fun h4 => ?_)
  · have h4 := q_b0.mp h4
    refine q_iconst (n := 17) dX7_numbers_16 rfl (k := ?_)
    refine q_iret dX7_numbers_17 rfl (fun _ => rfl) ?_
    refine ⟨congrArg some ((congrArg Sum.inl (Eq.symm ?_))), _, rfl⟩
    unfold fNumbers
    repeat (first | rw [if_pos (by first | assumption | omega)] | rw [if_neg (by first | assumption | omega)])
    try (first | rfl | omega)
  · have h4 := q_b1.mp h4
    refine q_iload_n (n := 8) dX7_numbers_7 rfl rfl ?_
    refine q_if_lt (n := 11) (t := 16) dX7_numbers_8 rfl (by decide) (fun h8 => ?_) (fun h8 => ?_)
    · skip
      refine q_iconst (n := 17) dX7_numbers_16 rfl (k := ?_)
      refine q_iret dX7_numbers_17 rfl (fun _ => rfl) ?_
      refine ⟨congrArg some ((congrArg Sum.inl (Eq.symm ?_))), _, rfl⟩
      unfold fNumbers
      repeat (first | rw [if_pos (by first | assumption | omega)] | rw [if_neg (by first | assumption | omega)])
      try (first | rfl | omega)
    · skip
      refine q_iload_n (n := 12) dX7_numbers_11 rfl rfl ?_
      refine q_iconst (n := 13) dX7_numbers_12 rfl (k := ?_)
      refine q_icmp_le (n := 16) (t := 18) dX7_numbers_13 rfl (by decide) (fun h13 => ?_) (fun h13 => ?_)
      · skip
        refine q_iload_n (n := 19) dX7_numbers_18 rfl rfl ?_
        refine q_iconst (n := 20) dX7_numbers_19 rfl (k := ?_)
        refine q_icmp_ne (n := 23) (t := 31) dX7_numbers_20 rfl (by decide) (fun h20 => ?_) (fun h20 => ?_)
        · skip
          refine q_iload_n (n := 32) dX7_numbers_31 rfl rfl ?_
          refine q_iload_n (n := 33) dX7_numbers_32 rfl rfl ?_
          refine q_c2D (n := 36) dX7_numbers_33 rfl (zX7_numberOf _ _ _ (by omega)) vX7_numberOf lX7_153 rfl rfl ?_
          refine q_iconst (n := 37) dX7_numbers_36 rfl (k := ?_)
          have hr := hr (by omega) (by omega)
          unfold q_bd at hr
          refine q_iaddS (n := 38) dX7_numbers_37 rfl ⟨by omega, by omega⟩ ?_
          refine q_iret dX7_numbers_38 rfl (fun _ => rfl) ?_
          refine ⟨congrArg some ((congrArg Sum.inl (Eq.symm ?_))), _, rfl⟩
          unfold fNumbers
          repeat (first | rw [if_pos (by first | assumption | omega)] | rw [if_neg (by first | assumption | omega)])
          try (first | rfl | omega)
        · skip
          refine q_iload_n (n := 24) dX7_numbers_23 rfl rfl ?_
          refine q_iconst (n := 25) dX7_numbers_24 rfl (k := ?_)
          refine q_c2D (n := 28) dX7_numbers_25 rfl (zX7_numberOf _ _ _ (by omega)) vX7_numberOf lX7_153 rfl rfl ?_
          refine q_go (t := 38) dX7_numbers_28 (by decide) ?_
          refine q_iret dX7_numbers_38 rfl (fun _ => rfl) ?_
          refine ⟨congrArg some ((congrArg Sum.inl (Eq.symm ?_))), _, rfl⟩
          unfold fNumbers
          repeat (first | rw [if_pos (by first | assumption | omega)] | rw [if_neg (by first | assumption | omega)])
          try (first | rfl | omega)
      · skip
        refine q_iconst (n := 17) dX7_numbers_16 rfl (k := ?_)
        refine q_iret dX7_numbers_17 rfl (fun _ => rfl) ?_
        refine ⟨congrArg some ((congrArg Sum.inl (Eq.symm ?_))), _, rfl⟩
        unfold fNumbers
        repeat (first | rw [if_pos (by first | assumption | omega)] | rw [if_neg (by first | assumption | omega)])
        try (first | rfl | omega)
set_option maxRecDepth 100000 in
theorem zX7_count (x : Int) (σ s : q_S) (hI : IX σ) : q_Ct mX7_count shX [.inr (.inr 0), .inl x] (ov σ s) (fun r σ' => r = some (.inl (fCount (σ 1 0) (σ 1 1) (σ 1 2) (σ 3) (σ 8 2) (σ 91 1) (σ 0 11) x)) ∧ ∃ s', σ' = ov σ s') := by
  refine q_ct 0 (by decide) rfl rfl ?_
  show q_WP mX7_count shX 0 [some (.inr (.inr 0)), some (.inl x)] [] (ov σ s) _
  have hI0 := hI
  obtain ⟨⟨hfd, hnt, hnv, hpt, hkd, hvx⟩, hnx, hcg, hln, hby, hpb, hrw⟩ := hI
  refine q_iload_n (n := 1) dX7_count_0 rfl rfl ?_
  rcases (by omega : (x < 0 ∨ 6 < x) ∨ x = 0 ∨ x = 1 ∨ x = 2 ∨ x = 3 ∨ x = 4 ∨ x = 5 ∨ x = 6) with h1 | h1 | h1 | h1 | h1 | h1 | h1 | h1
  · refine q_tableOut (t := 97) dX7_count_1 h1 (by decide) ?_
    refine q_iconst (n := 98) dX7_count_97 rfl (k := ?_)
    refine q_iret dX7_count_98 rfl (fun _ => rfl) ?_
    refine ⟨congrArg some ((congrArg Sum.inl (Eq.symm ?_))), _, rfl⟩
    unfold fCount
    repeat (first | rw [if_pos (by first | assumption | omega)] | rw [if_neg (by first | assumption | omega)])
    try (first | rfl | omega)
  · refine q_topI 0 h1 ?_
    refine q_tableIn (t := 44) dX7_count_1 (by decide) (by decide) rfl (by decide) ?_
    refine q_aload_n (n := 45) dX7_count_44 rfl rfl ?_
    refine q_getR (n := 48) dX7_count_45 rfl fX7_12 xi0 rfl ?_
    refine q_getIF (σ 1) (kI := 0) (n := 51) (by decide) dX7_count_48 rfl fX7_156 xi1 rfl rfl rfl ?_
    refine q_iret dX7_count_51 rfl (fun _ => rfl) ?_
    refine ⟨congrArg some ((congrArg Sum.inl (Eq.symm ?_))), _, rfl⟩
    unfold fCount
    repeat (first | rw [if_pos (by first | assumption | omega)] | rw [if_neg (by first | assumption | omega)])
    try (first | rfl | omega)
  · refine q_topI 1 h1 ?_
    refine q_tableIn (t := 52) dX7_count_1 (by decide) (by decide) rfl (by decide) ?_
    refine q_aload_n (n := 53) dX7_count_52 rfl rfl ?_
    refine q_getR (n := 56) dX7_count_53 rfl fX7_12 xi0 rfl ?_
    refine q_getIF (σ 1) (kI := 1) (n := 59) (by decide) dX7_count_56 rfl fX7_159 xi1 rfl rfl rfl ?_
    refine q_iret dX7_count_59 rfl (fun _ => rfl) ?_
    refine ⟨congrArg some ((congrArg Sum.inl (Eq.symm ?_))), _, rfl⟩
    unfold fCount
    repeat (first | rw [if_pos (by first | assumption | omega)] | rw [if_neg (by first | assumption | omega)])
    try (first | rfl | omega)
  · refine q_topI 2 h1 ?_
    refine q_tableIn (t := 60) dX7_count_1 (by decide) (by decide) rfl (by decide) ?_
    refine q_aload_n (n := 61) dX7_count_60 rfl rfl ?_
    refine q_getR (n := 64) dX7_count_61 rfl fX7_12 xi0 rfl ?_
    refine q_getIF (σ 1) (kI := 2) (n := 67) (by decide) dX7_count_64 rfl fX7_162 xi1 rfl rfl rfl ?_
    refine q_iret dX7_count_67 rfl (fun _ => rfl) ?_
    refine ⟨congrArg some ((congrArg Sum.inl (Eq.symm ?_))), _, rfl⟩
    unfold fCount
    repeat (first | rw [if_pos (by first | assumption | omega)] | rw [if_neg (by first | assumption | omega)])
    try (first | rfl | omega)
  · refine q_topI 3 h1 ?_
    refine q_tableIn (t := 68) dX7_count_1 (by decide) (by decide) rfl (by decide) ?_
    refine q_aload_n (n := 69) dX7_count_68 rfl rfl ?_
    refine q_getR (n := 72) dX7_count_69 rfl fX7_12 xi0 rfl ?_
    refine q_v0D (n := 75) dX7_count_72 rfl (zX3_toldTracks (ov σ s) hnt) vX3_toldTracks lX7_165 rfl rfl xi1 rfl ?_
    refine q_iret dX7_count_75 rfl (fun _ => rfl) ?_
    refine ⟨congrArg some ((congrArg Sum.inl (Eq.symm ?_))), _, rfl⟩
    unfold fCount
    repeat (first | rw [if_pos (by first | assumption | omega)] | rw [if_neg (by first | assumption | omega)])
    try (first | rfl | omega)
  · refine q_topI 4 h1 ?_
    refine q_tableIn (t := 76) dX7_count_1 (by decide) (by decide) rfl (by decide) ?_
    refine q_aload_n (n := 77) dX7_count_76 rfl rfl ?_
    refine q_getR (n := 80) dX7_count_77 rfl fX7_21 xi0 rfl ?_
    refine q_getIF (σ 8) (kI := 2) (n := 83) (by decide) dX7_count_80 rfl fX7_168 xi8 rfl rfl rfl ?_
    refine q_iret dX7_count_83 rfl (fun _ => rfl) ?_
    refine ⟨congrArg some ((congrArg Sum.inl (Eq.symm ?_))), _, rfl⟩
    unfold fCount
    repeat (first | rw [if_pos (by first | assumption | omega)] | rw [if_neg (by first | assumption | omega)])
    try (first | rfl | omega)
  · refine q_topI 5 h1 ?_
    refine q_tableIn (t := 84) dX7_count_1 (by decide) (by decide) rfl (by decide) ?_
    refine q_aload_n (n := 85) dX7_count_84 rfl rfl ?_
    refine q_getR (n := 88) dX7_count_85 rfl fX7_62 xi0 rfl ?_
    refine q_getIF (σ 91) (kI := 1) (n := 91) (by decide) dX7_count_88 rfl fX7_171 xi91 rfl rfl rfl ?_
    refine q_iret dX7_count_91 rfl (fun _ => rfl) ?_
    refine ⟨congrArg some ((congrArg Sum.inl (Eq.symm ?_))), _, rfl⟩
    unfold fCount
    repeat (first | rw [if_pos (by first | assumption | omega)] | rw [if_neg (by first | assumption | omega)])
    try (first | rfl | omega)
  · refine q_topI 6 h1 ?_
    refine q_tableIn (t := 92) dX7_count_1 (by decide) (by decide) rfl (by decide) ?_
    refine q_aload_n (n := 93) dX7_count_92 rfl rfl ?_
    refine q_getIF (σ 0) (kI := 11) (n := 96) (by decide) dX7_count_93 rfl fX7_70 xi0 rfl rfl rfl ?_
    refine q_iret dX7_count_96 rfl (fun _ => rfl) ?_
    refine ⟨congrArg some ((congrArg Sum.inl (Eq.symm ?_))), _, rfl⟩
    unfold fCount
    repeat (first | rw [if_pos (by first | assumption | omega)] | rw [if_neg (by first | assumption | omega)])
    try (first | rfl | omega)
theorem zX6_append' (ch : Int) (σ : q_S) (hl : 0 ≤ σ 91 1 ∧ σ 91 1 ≤ 120) (hc : 1 ≤ ch ∧ ch ≤ 127) : q_Ct mX6_append shX [.inr (.inr 91), .inl ch] σ (fun r σ' => ∃ v, r = some v ∧ (σ 91 1 = 120 ∧ v = .inl 0 ∧ σ' = σ ∨ σ 91 1 < 120 ∧ v = .inl 1 ∧ σ' = q_up (q_up σ 92 (σ 91 1) ch) 91 1 (σ 91 1 + 1))) := by
  have h := zX6_append σ (σ 91 2) (σ 93) ch hl hc
  rw [tp_self] at h
  exact h
set_option maxRecDepth 100000 in
theorem zX7_feed (x : Int) (σ : q_S) (hl : 0 ≤ σ 91 1 ∧ σ 91 1 ≤ 120) : q_Ct mX7_feed shX [.inr (.inr 0), .inl x] σ (fun r σ' => ∃ v, r = some v ∧ ((¬ (1 ≤ x ∧ x ≤ 127) ∧ v = .inl (-1) ∨ (1 ≤ x ∧ x ≤ 127) ∧ σ 91 1 = 120 ∧ v = .inl (-3)) ∧ σ' = σ ∨ (1 ≤ x ∧ x ≤ 127) ∧ σ 91 1 < 120 ∧ v = .inl (σ 91 1 + 1) ∧ σ' = q_up (q_up σ 92 (σ 91 1) x) 91 1 (σ 91 1 + 1))) := by
  refine q_ct 0 (by decide) rfl rfl ?_
  show q_WP mX7_feed shX 0 [some (.inr (.inr 0)), some (.inl x)] [] σ _
  refine q_iload_n (n := 1) dX7_feed_0 rfl rfl ?_
  refine q_iconst (n := 2) dX7_feed_1 rfl (k := ?_)
  refine q_icmp_lt (n := 5) (t := 11) dX7_feed_2 rfl (by decide) (fun h2 => ?_) (fun h2 => ?_)
  · skip
    refine q_iconst (n := 12) dX7_feed_11 rfl (k := ?_)
    refine q_iret dX7_feed_12 rfl (fun _ => rfl) ?_
    first
      | exact ⟨_, rfl, Or.inl ⟨Or.inl ⟨by omega, rfl⟩, rfl⟩⟩
      | exact ⟨_, rfl, Or.inl ⟨Or.inr ⟨by omega, by omega, rfl⟩, rfl⟩⟩
      | exact ⟨_, rfl, Or.inr ⟨by omega, by omega, rfl, rfl⟩⟩
  · skip
    refine q_iload_n (n := 6) dX7_feed_5 rfl rfl ?_
    refine q_bipush (n := 8) dX7_feed_6 rfl (k := ?_)
    refine q_icmp_le (n := 11) (t := 13) dX7_feed_8 rfl (by decide) (fun h8 => ?_) (fun h8 => ?_)
    · skip
      refine q_aload_n (n := 14) dX7_feed_13 rfl rfl ?_
      refine q_getR (n := 17) dX7_feed_14 rfl fX7_62 xi0 rfl ?_
      refine q_iload_n (n := 18) dX7_feed_17 rfl rfl ?_
      refine q_v1 (n := 21) dX7_feed_18 rfl (zX6_append' x σ hl (by omega)) vX6_append lX7_293 rfl rfl xi91 rfl (fun v18 σ18 h18 => ?_)
      rcases h18 with ⟨ha, rfl, rfl⟩ | ⟨ha, rfl, rfl⟩
      · skip
        refine q_if_eq (n := 24) (t := 34) dX7_feed_21 rfl (by decide) (fun h21 => ?_) (fun h21 => ?_)
        · skip
          refine q_bipush (n := 36) dX7_feed_34 rfl (k := ?_)
          refine q_iret dX7_feed_36 rfl (fun _ => rfl) ?_
          first
            | exact ⟨_, rfl, Or.inl ⟨Or.inl ⟨by omega, rfl⟩, rfl⟩⟩
            | exact ⟨_, rfl, Or.inl ⟨Or.inr ⟨by omega, by omega, rfl⟩, rfl⟩⟩
            | exact ⟨_, rfl, Or.inr ⟨by omega, by omega, rfl, rfl⟩⟩
        · exact absurd h21 (by decide)
      · skip
        refine q_if_eq (n := 24) (t := 34) dX7_feed_21 rfl (by decide) (fun h21 => ?_) (fun h21 => ?_)
        · exact absurd h21 (by decide)
        · skip
          refine q_aload_n (n := 25) dX7_feed_24 rfl rfl ?_
          refine q_getR (n := 28) dX7_feed_25 rfl fX7_62 xi0 rfl ?_
          refine q_getIE (σ 91 1 + 1) (kI := 1) (n := 31) (by decide) dX7_feed_28 rfl fX7_171 xi91 rfl rfl (by rw [q_up_s]) ?_
          refine q_go (t := 36) dX7_feed_31 (by decide) ?_
          refine q_iret dX7_feed_36 rfl (fun _ => rfl) ?_
          first
            | exact ⟨_, rfl, Or.inl ⟨Or.inl ⟨by omega, rfl⟩, rfl⟩⟩
            | exact ⟨_, rfl, Or.inl ⟨Or.inr ⟨by omega, by omega, rfl⟩, rfl⟩⟩
            | exact ⟨_, rfl, Or.inr ⟨by omega, by omega, rfl, rfl⟩⟩
    · skip
      refine q_iconst (n := 12) dX7_feed_11 rfl (k := ?_)
      refine q_iret dX7_feed_12 rfl (fun _ => rfl) ?_
      first
        | exact ⟨_, rfl, Or.inl ⟨Or.inl ⟨by omega, rfl⟩, rfl⟩⟩
        | exact ⟨_, rfl, Or.inl ⟨Or.inr ⟨by omega, by omega, rfl⟩, rfl⟩⟩
        | exact ⟨_, rfl, Or.inr ⟨by omega, by omega, rfl, rfl⟩⟩
theorem zr_next {g : Int → Int} {i : Int} (hi : 0 ≤ i ∧ i < 24) : (fun j => if j = i then 0 else (if 0 ≤ j ∧ j < i then 0 else g j)) = (fun j => if 0 ≤ j ∧ j < i + 1 then 0 else g j) := by
  funext j
  by_cases h : j = i
  · subst h
    rw [if_pos rfl, if_pos ⟨by omega, by omega⟩]
  · rw [if_neg h]
    by_cases h2 : 0 ≤ j ∧ j < i
    · rw [if_pos h2, if_pos ⟨by omega, by omega⟩]
    · rw [if_neg h2, if_neg (by omega)]
set_option maxRecDepth 100000 in
theorem lpX5_be (c N : Int) (σ : q_S) (hc : q_Row c) : ∀ (n : Nat) (i : Int), (n : Int) + i = 24 → 0 ≤ i → q_WP mX5_become shX 2 [some (.inr (.inr c)), some (.inl N), some (.inl i)] [] (q_row σ (c + 1) (fun j => if 0 ≤ j ∧ j < i then 0 else σ (c + 1) j)) (fun r σ' => r = none ∧ σ' = q_up (q_row σ (c + 1) (fun j => if 0 ≤ j ∧ j < 24 then 0 else σ (c + 1) j)) c 1 N) := by
  intro n
  induction n with
  | zero =>
    intro i hi h0
    have : i = 24 := by omega
    subst this
    refine q_iload_n (n := 3) dX5_become_2 rfl rfl ?_
    refine q_bipush (n := 5) dX5_become_3 rfl (k := ?_)
    refine q_icmp_ge (n := 8) (t := 21) dX5_become_5 rfl (by decide) (fun h5 => ?_) (fun h5 => ?_)
    · skip
      refine q_aload_n (n := 22) dX5_become_21 rfl rfl ?_
      refine q_iload_n (n := 23) dX5_become_22 rfl rfl ?_
      refine q_putI (kI := 1) (n := 26) dX5_become_23 rfl pX5_15 hc.1 rfl rfl ?_
      refine q_vret dX5_become_26 rfl ?_
      exact ⟨rfl, rfl⟩
    · exact absurd h5 (by omega)
  | succ n ih =>
    intro i hi h0
    refine q_iload_n (n := 3) dX5_become_2 rfl rfl ?_
    refine q_bipush (n := 5) dX5_become_3 rfl (k := ?_)
    refine q_icmp_ge (n := 8) (t := 21) dX5_become_5 rfl (by decide) (fun h5 => ?_) (fun h5 => ?_)
    · exact absurd h5 (by omega)
    · skip
      refine q_aload_n (n := 9) dX5_become_8 rfl rfl ?_
      refine q_getR (n := 12) dX5_become_9 rfl fX5_9 hc.1 rfl ?_
      refine q_iload_n (n := 13) dX5_become_12 rfl rfl ?_
      refine q_lconst (x := 0) (n := 14) dX5_become_13 rfl (k := ?_)
      refine q_lastore (n := 15) dX5_become_14 rfl hc.2 ⟨by omega, by omega⟩ ?_
      refine q_iinc (n := 18) dX5_become_15 rfl (Nat.le_of_ble_eq_true rfl) rfl (q_nwid ⟨by omega, by omega⟩) (q_s1_s (q_s1_1 rfl)) ?_
      refine q_go (t := 2) dX5_become_18 (by decide) ?_
      rw [q_row_up]
      refine q_cut _ _ (q_row σ (c + 1) (fun j => if 0 ≤ j ∧ j < i + 1 then 0 else σ (c + 1) j)) rfl rfl (congrArg _ (zr_next ⟨by omega, by omega⟩)) ?_
      exact ih _ (by omega) (by omega)
set_option maxRecDepth 100000 in
theorem zX5_become (c N : Int) (σ : q_S) (hc : q_Row c) : q_Ct mX5_become shX [.inr (.inr c), .inl N] σ (fun r σ' => r = none ∧ σ' = q_up (q_row σ (c + 1) (fun j => if 0 ≤ j ∧ j < 24 then 0 else σ (c + 1) j)) c 1 N) := by
  refine q_ct 1 (by decide) rfl rfl ?_
  show q_WP mX5_become shX 0 [some (.inr (.inr c)), some (.inl N), none] [] σ _
  refine q_iconst (n := 1) dX5_become_0 rfl (k := ?_)
  refine q_istore_n (n := 2) dX5_become_1 rfl (Nat.le_of_ble_eq_true rfl) (q_s1_s (q_s1_1 rfl)) ?_
  refine q_cut _ _ (q_row σ (c + 1) (fun j => if 0 ≤ j ∧ j < 0 then 0 else σ (c + 1) j)) rfl rfl ?_ (lpX5_be c N σ hc 24 0 (by decide) (by decide))
  rw [zE_0, q_row_0]
set_option maxRecDepth 100000 in
theorem zX7_list (l n : Int) (σ : q_S) : q_Ct mX7_list shX [.inr (.inr 0), .inl l, .inl n] σ (fun r σ' => ∃ v, r = some v ∧ ((¬ (0 ≤ l ∧ l < 3) ∨ 24 < n) ∧ v = .inl (-1) ∧ σ' = σ ∨ ((0 ≤ l ∧ l < 3) ∧ n < 0) ∧ v = .inl (-14) ∧ σ' = σ ∨ ((0 ≤ l ∧ l < 3) ∧ 0 ≤ n ∧ n ≤ 24) ∧ v = .inl 1 ∧ σ' = q_up (q_row σ (104 + 2 * l + 1) (fun j => if 0 ≤ j ∧ j < 24 then 0 else σ (104 + 2 * l + 1) j)) (104 + 2 * l) 1 n)) := by
  refine q_ct 0 (by decide) rfl rfl ?_
  show q_WP mX7_list shX 0 [some (.inr (.inr 0)), some (.inl l), some (.inl n)] [] σ _
  refine q_iload_n (n := 1) dX7_list_0 rfl rfl ?_
  refine q_c1D (n := 4) dX7_list_1 rfl (zX7_isList _ _) vX7_isList lX7_310 rfl rfl ?_
  refine q_if_eq (n := 7) (t := 13) dX7_list_4 rfl (by decide) (fun h4 => ?_) (fun h4 => ?_)
  · have hL := q_b0.mp h4
    refine q_iconst (n := 14) dX7_list_13 rfl (k := ?_)
    refine q_iret dX7_list_14 rfl (fun _ => rfl) ?_
    first
      | exact ⟨_, rfl, Or.inl ⟨by omega, rfl, rfl⟩⟩
      | exact ⟨_, rfl, Or.inr (Or.inl ⟨by omega, rfl, rfl⟩)⟩
      | exact ⟨_, rfl, Or.inr (Or.inr ⟨by omega, rfl, rfl⟩)⟩
  · have hL := q_b1.mp h4
    refine q_iload_n (n := 8) dX7_list_7 rfl rfl ?_
    refine q_bipush (n := 10) dX7_list_8 rfl (k := ?_)
    refine q_icmp_le (n := 13) (t := 15) dX7_list_10 rfl (by decide) (fun h10 => ?_) (fun h10 => ?_)
    · skip
      refine q_iload_n (n := 16) dX7_list_15 rfl rfl ?_
      refine q_if_ge (n := 19) (t := 22) dX7_list_16 rfl (by decide) (fun h16 => ?_) (fun h16 => ?_)
      · skip
        refine q_aload_n (n := 23) dX7_list_22 rfl rfl ?_
        refine q_getR (n := 26) dX7_list_23 rfl fX7_76 xi0 rfl ?_
        refine q_iload_n (n := 27) dX7_list_26 rfl rfl ?_
        refine q_aaload (n := 28) dX7_list_27 rfl xi95 (fun _ => rfl) ⟨by omega, by omega⟩ ?_
        refine q_iload_n (n := 29) dX7_list_28 rfl rfl ?_
        refine q_v1U (n := 32) dX7_list_29 rfl (zX5_become _ _ _ (rowN l hL)) vX5_become lX7_313 rfl rfl (rowN l hL).1 rfl ?_
        refine q_iconst (n := 33) dX7_list_32 rfl (k := ?_)
        refine q_iret dX7_list_33 rfl (fun _ => rfl) ?_
        first
          | exact ⟨_, rfl, Or.inl ⟨by omega, rfl, rfl⟩⟩
          | exact ⟨_, rfl, Or.inr (Or.inl ⟨by omega, rfl, rfl⟩)⟩
          | exact ⟨_, rfl, Or.inr (Or.inr ⟨by omega, rfl, rfl⟩)⟩
      · skip
        refine q_bipush (n := 21) dX7_list_19 rfl (k := ?_)
        refine q_iret dX7_list_21 rfl (fun _ => rfl) ?_
        first
          | exact ⟨_, rfl, Or.inl ⟨by omega, rfl, rfl⟩⟩
          | exact ⟨_, rfl, Or.inr (Or.inl ⟨by omega, rfl, rfl⟩)⟩
          | exact ⟨_, rfl, Or.inr (Or.inr ⟨by omega, rfl, rfl⟩)⟩
    · skip
      refine q_iconst (n := 14) dX7_list_13 rfl (k := ?_)
      refine q_iret dX7_list_14 rfl (fun _ => rfl) ?_
      first
        | exact ⟨_, rfl, Or.inl ⟨by omega, rfl, rfl⟩⟩
        | exact ⟨_, rfl, Or.inr (Or.inl ⟨by omega, rfl, rfl⟩)⟩
        | exact ⟨_, rfl, Or.inr (Or.inr ⟨by omega, rfl, rfl⟩)⟩
set_option maxRecDepth 100000 in
theorem zX7_set (l i x : Int) (σ : q_S) (hrw : ∀ l : Int, 0 ≤ l → l < 3 → -1 ≤ σ (104 + 2 * l) 1 ∧ σ (104 + 2 * l) 1 ≤ 24) : q_Ct mX7_set shX [.inr (.inr 0), .inl l, .inl i, .inr (.inl x)] σ (fun r σ' => ∃ v, r = some v ∧ (¬ (0 ≤ l ∧ l < 3) ∧ v = .inl (-1) ∧ σ' = σ ∨ ((0 ≤ l ∧ l < 3) ∧ σ (104 + 2 * l) 1 < 0) ∧ v = .inl (-11) ∧ σ' = σ ∨ ((0 ≤ l ∧ l < 3) ∧ 0 ≤ σ (104 + 2 * l) 1 ∧ ¬ (0 ≤ i ∧ i < σ (104 + 2 * l) 1)) ∧ v = .inl (-13) ∧ σ' = σ ∨ ((0 ≤ l ∧ l < 3) ∧ 0 ≤ i ∧ i < σ (104 + 2 * l) 1) ∧ v = .inl 1 ∧ σ' = q_up σ (104 + 2 * l + 1) i x)) := by
  refine q_ct 0 (by decide) rfl rfl ?_
  show q_WP mX7_set shX 0 [some (.inr (.inr 0)), some (.inl l), some (.inl i), some (.inr (.inl x)), none] [] σ _
  refine q_iload_n (n := 1) dX7_set_0 rfl rfl ?_
  refine q_c1D (n := 4) dX7_set_1 rfl (zX7_isList _ _) vX7_isList lX7_310 rfl rfl ?_
  refine q_if_ne (n := 7) (t := 9) dX7_set_4 rfl (by decide) (fun h4 => ?_) (fun h4 => ?_)
  · have hL := q_b1.mp h4
    obtain ⟨hr1, hr2⟩ := hrw l hL.1 hL.2
    refine q_aload_n (n := 10) dX7_set_9 rfl rfl ?_
    refine q_getR (n := 13) dX7_set_10 rfl fX7_76 xi0 rfl ?_
    refine q_iload_n (n := 14) dX7_set_13 rfl rfl ?_
    refine q_aaload (n := 15) dX7_set_14 rfl xi95 (fun _ => rfl) ⟨by omega, by omega⟩ ?_
    refine q_v0D (n := 18) dX7_set_15 rfl (zX5_holdsNothing _ _ (rowN l hL)) vX5_holdsNothing lX7_317 rfl rfl (rowN l hL).1 rfl ?_
    refine q_if_eq (n := 21) (t := 24) dX7_set_18 rfl (by decide) (fun h18 => ?_) (fun h18 => ?_)
    · have h18 := q_b0.mp h18
      refine q_aload_n (n := 25) dX7_set_24 rfl rfl ?_
      refine q_getR (n := 28) dX7_set_25 rfl fX7_76 xi0 rfl ?_
      refine q_iload_n (n := 29) dX7_set_28 rfl rfl ?_
      refine q_aaload (n := 30) dX7_set_29 rfl xi95 (fun _ => rfl) ⟨by omega, by omega⟩ ?_
      refine q_iload_n (n := 31) dX7_set_30 rfl rfl ?_
      refine q_v1D (n := 34) dX7_set_31 rfl (zX5_hasPlace _ _ _ (rowN l hL)) vX5_hasPlace lX7_320 rfl rfl (rowN l hL).1 rfl ?_
      refine q_if_ne (n := 37) (t := 40) dX7_set_34 rfl (by decide) (fun h34 => ?_) (fun h34 => ?_)
      · have h34 := q_b1.mp h34
        refine q_aload_n (n := 41) dX7_set_40 rfl rfl ?_
        refine q_getR (n := 44) dX7_set_41 rfl fX7_76 xi0 rfl ?_
        refine q_iload_n (n := 45) dX7_set_44 rfl rfl ?_
        refine q_aaload (n := 46) dX7_set_45 rfl xi95 (fun _ => rfl) ⟨by omega, by omega⟩ ?_
        refine q_getR (n := 49) dX7_set_46 rfl fX7_323 (rowN l hL).1 rfl ?_
        refine q_iload_n (n := 50) dX7_set_49 rfl rfl ?_
        refine q_lload_n (n := 51) dX7_set_50 rfl rfl ?_
        refine q_lastore (n := 52) dX7_set_51 rfl (rowN l hL).2 ⟨by omega, by omega⟩ ?_
        refine q_iconst (n := 53) dX7_set_52 rfl (k := ?_)
        refine q_iret dX7_set_53 rfl (fun _ => rfl) ?_
        first
          | exact ⟨_, rfl, Or.inl ⟨hL, rfl, rfl⟩⟩
          | exact ⟨_, rfl, Or.inr (Or.inl ⟨⟨by omega, by omega⟩, rfl, rfl⟩)⟩
          | exact ⟨_, rfl, Or.inr (Or.inr (Or.inl ⟨⟨by omega, by omega, by omega⟩, rfl, rfl⟩))⟩
          | exact ⟨_, rfl, Or.inr (Or.inr (Or.inr ⟨⟨by omega, by omega, by omega⟩, rfl, rfl⟩))⟩
      · have h34 := q_b0.mp h34
        refine q_bipush (n := 39) dX7_set_37 rfl (k := ?_)
        refine q_iret dX7_set_39 rfl (fun _ => rfl) ?_
        first
          | exact ⟨_, rfl, Or.inl ⟨hL, rfl, rfl⟩⟩
          | exact ⟨_, rfl, Or.inr (Or.inl ⟨⟨by omega, by omega⟩, rfl, rfl⟩)⟩
          | exact ⟨_, rfl, Or.inr (Or.inr (Or.inl ⟨⟨by omega, by omega, by omega⟩, rfl, rfl⟩))⟩
          | exact ⟨_, rfl, Or.inr (Or.inr (Or.inr ⟨⟨by omega, by omega, by omega⟩, rfl, rfl⟩))⟩
    · have h18 := q_b1.mp h18
      refine q_bipush (n := 23) dX7_set_21 rfl (k := ?_)
      refine q_iret dX7_set_23 rfl (fun _ => rfl) ?_
      first
        | exact ⟨_, rfl, Or.inl ⟨hL, rfl, rfl⟩⟩
        | exact ⟨_, rfl, Or.inr (Or.inl ⟨⟨by omega, by omega⟩, rfl, rfl⟩)⟩
        | exact ⟨_, rfl, Or.inr (Or.inr (Or.inl ⟨⟨by omega, by omega, by omega⟩, rfl, rfl⟩))⟩
        | exact ⟨_, rfl, Or.inr (Or.inr (Or.inr ⟨⟨by omega, by omega, by omega⟩, rfl, rfl⟩))⟩
  · have hL := q_b0.mp h4
    refine q_iconst (n := 8) dX7_set_7 rfl (k := ?_)
    refine q_iret dX7_set_8 rfl (fun _ => rfl) ?_
    first
      | exact ⟨_, rfl, Or.inl ⟨hL, rfl, rfl⟩⟩
      | exact ⟨_, rfl, Or.inr (Or.inl ⟨⟨by omega, by omega⟩, rfl, rfl⟩)⟩
      | exact ⟨_, rfl, Or.inr (Or.inr (Or.inl ⟨⟨by omega, by omega, by omega⟩, rfl, rfl⟩))⟩
      | exact ⟨_, rfl, Or.inr (Or.inr (Or.inr ⟨⟨by omega, by omega, by omega⟩, rfl, rfl⟩))⟩
def fGet (h : Int → Int) (g : Int → Int → Int) (l i : Int) : Int := if (0 ≤ l ∧ l < 3) ∧ 0 ≤ i ∧ i < h l then g l i else -9223372036854775808
set_option maxRecDepth 100000 in
theorem zX7_get (l i : Int) (σ : q_S) (hrw : ∀ l : Int, 0 ≤ l → l < 3 → -1 ≤ σ (104 + 2 * l) 1 ∧ σ (104 + 2 * l) 1 ≤ 24) : q_Ct mX7_get shX [.inr (.inr 0), .inl l, .inl i] σ (fun r σ' => r = some (.inr (.inl (fGet (fun l => σ (104 + 2 * l) 1) (fun l => σ (104 + 2 * l + 1)) l i))) ∧ σ' = σ) := by
  refine q_ct 0 (by decide) rfl rfl ?_
  show q_WP mX7_get shX 0 [some (.inr (.inr 0)), some (.inl l), some (.inl i)] [] σ _
  refine q_iload_n (n := 1) dX7_get_0 rfl rfl ?_
  refine q_c1D (n := 4) dX7_get_1 rfl (zX7_isList _ _) vX7_isList lX7_310 rfl rfl ?_
  refine q_if_eq (n := 7) (t := 34) dX7_get_4 rfl (by decide) (fun h4 => ?_) (fun h4 => ?_)
  · have hL := q_b0.mp h4
    refine q_ldc2 (x := -9223372036854775808) (n := 37) dX7_get_34 rfl kX7_133 (k := ?_)
    refine q_lret dX7_get_37 rfl ?_
    refine ⟨congrArg some (congrArg Sum.inr (congrArg Sum.inl (Eq.symm ?_))), rfl⟩
    unfold fGet
    first | exact if_pos (by dsimp only; omega) | exact if_neg (by dsimp only; omega)
  · have hL := q_b1.mp h4
    obtain ⟨hr1, hr2⟩ := hrw l hL.1 hL.2
    refine q_aload_n (n := 8) dX7_get_7 rfl rfl ?_
    refine q_getR (n := 11) dX7_get_8 rfl fX7_76 xi0 rfl ?_
    refine q_iload_n (n := 12) dX7_get_11 rfl rfl ?_
    refine q_aaload (n := 13) dX7_get_12 rfl xi95 (fun _ => rfl) ⟨by omega, by omega⟩ ?_
    refine q_iload_n (n := 14) dX7_get_13 rfl rfl ?_
    refine q_v1D (n := 17) dX7_get_14 rfl (zX5_hasPlace _ _ _ (rowN l hL)) vX5_hasPlace lX7_320 rfl rfl (rowN l hL).1 rfl ?_
    refine q_if_eq (n := 20) (t := 34) dX7_get_17 rfl (by decide) (fun h17 => ?_) (fun h17 => ?_)
    · have h17 := q_b0.mp h17
      refine q_ldc2 (x := -9223372036854775808) (n := 37) dX7_get_34 rfl kX7_133 (k := ?_)
      refine q_lret dX7_get_37 rfl ?_
      refine ⟨congrArg some (congrArg Sum.inr (congrArg Sum.inl (Eq.symm ?_))), rfl⟩
      unfold fGet
      first | exact if_pos (by dsimp only; omega) | exact if_neg (by dsimp only; omega)
    · have h17 := q_b1.mp h17
      refine q_aload_n (n := 21) dX7_get_20 rfl rfl ?_
      refine q_getR (n := 24) dX7_get_21 rfl fX7_76 xi0 rfl ?_
      refine q_iload_n (n := 25) dX7_get_24 rfl rfl ?_
      refine q_aaload (n := 26) dX7_get_25 rfl xi95 (fun _ => rfl) ⟨by omega, by omega⟩ ?_
      refine q_getR (n := 29) dX7_get_26 rfl fX7_323 (rowN l hL).1 rfl ?_
      refine q_iload_n (n := 30) dX7_get_29 rfl rfl ?_
      refine q_laload (n := 31) dX7_get_30 rfl (rowN l hL).2 ⟨by omega, by omega⟩ ?_
      refine q_go (t := 37) dX7_get_31 (by decide) ?_
      refine q_lret dX7_get_37 rfl ?_
      refine ⟨congrArg some (congrArg Sum.inr (congrArg Sum.inl (Eq.symm ?_))), rfl⟩
      unfold fGet
      first | exact if_pos (by dsimp only; omega) | exact if_neg (by dsimp only; omega)
set_option maxRecDepth 100000 in
theorem zX7_curveOf (σ s : q_S) (t : Int) (hI : IX σ) (ht : 0 ≤ t ∧ t < σ 1 1) : q_Ct mX7_curveOf shX [.inr (.inr 0), .inl t] (ov σ s) (fun r σ' => r = some (.inr (.inr (96 + t))) ∧ σ' = ov σ (cvl s t (σ 2))) := by
  refine q_ct 1 (by decide) rfl rfl ?_
  show q_WP mX7_curveOf shX 0 [some (.inr (.inr 0)), some (.inl t), none] [] (ov σ s) _
  have hn := hI.1.2.1
  have ht8 : 0 ≤ t ∧ t < 8 := by omega
  have hg := hI.pt ht
  refine q_aload_n (n := 1) dX7_curveOf_0 rfl rfl ?_
  refine q_getR (n := 4) dX7_curveOf_1 rfl fX7_34 xi0 rfl ?_
  refine q_iload_n (n := 5) dX7_curveOf_4 rfl rfl ?_
  refine q_aaload (n := 6) dX7_curveOf_5 rfl xi80 (fun _ => rfl) ⟨by omega, by omega⟩ ?_
  refine q_astore_n (n := 7) dX7_curveOf_6 rfl (Nat.le_of_ble_eq_true rfl) (q_s1_s (q_s1_1 rfl)) ?_
  refine q_aload_n (n := 8) dX7_curveOf_7 rfl rfl ?_
  refine q_aload_n (n := 9) dX7_curveOf_8 rfl rfl ?_
  refine q_getR (n := 12) dX7_curveOf_9 rfl fX7_12 xi0 rfl ?_
  refine q_getR (n := 15) dX7_curveOf_12 rfl fX7_126 xi1 rfl ?_
  refine q_bipush (n := 17) dX7_curveOf_15 rfl (k := ?_)
  refine q_iload_n (n := 18) dX7_curveOf_17 rfl rfl ?_
  refine q_imulS (n := 19) dX7_curveOf_18 rfl ⟨by omega, by omega⟩ ?_
  refine q_v2U (n := 22) dX7_curveOf_19 rfl (zX0_lay (96 + t) (6 * t) (ov σ s) (curN t ht8) (by omega) hg) vX0_lay lX7_362 rfl rfl (curN t ht8) rfl ?_
  rw [ov_lay (sc_cv ht8)]
  refine q_aload_n (n := 23) dX7_curveOf_22 rfl rfl ?_
  refine q_aret dX7_curveOf_23 rfl ?_
  exact ⟨rfl, rfl⟩
