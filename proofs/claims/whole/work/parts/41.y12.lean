theorem tp_ov {σ s : q_S} {pl : Int} {rd : Int → Int} : tp (ov σ s) pl rd = ov σ (tp s pl rd) := by
  unfold tp
  rw [ov_up rfl, ov_row (fun _ => rfl)]
theorem zO_readStatement (σ s : q_S) (hI : IX σ) (hp : 0 ≤ s 91 2 ∧ s 91 2 ≤ σ 91 1) : q_Ct mX6_readStatement shX [.inr (.inr 91)] (ov σ s) (fun r σ' => ∃ v, r = some v ∧ ((∃ q, pStat (tT σ) (s 91 2) (s 93) = .inl q ∧ v = .inl 0 ∧ ∃ s', σ' = ov σ s') ∨ (∃ rd' q, pStat (tT σ) (s 91 2) (s 93) = .inr (rd', q) ∧ v = .inl 1 ∧ ∃ s', σ' = ov σ s' ∧ s' 91 2 = q ∧ s' 93 = rd' ∧ s' 91 3 = tT σ (s 91 2)))) := by
  have h := zX6_readStatement (ov σ s) (s 91 2) (s 93) hI.2.2.2.1 hI.2.2.2.2.1 hp
  have e : tp (ov σ s) (s 91 2) (s 93) = ov σ s := tp_self (σ := ov σ s)
  rw [e] at h
  have e2 : tT (ov σ s) = tT σ := rfl
  rw [e2] at h
  refine h.imp ?_
  rintro r σ' ⟨v, hr, ⟨q, h1, h2, rd', h3⟩ | ⟨rd', q, h1, h2, h3⟩⟩
  · refine ⟨v, hr, Or.inl ⟨q, h1, h2, tp (q_up s 91 3 (tT σ (s 91 2))) q rd', ?_⟩⟩
    rw [h3, ov_up rfl, tp_ov]
  · refine ⟨v, hr, Or.inr ⟨rd', q, h1, h2, tp (q_up s 91 3 (tT σ (s 91 2))) q rd', ?_, tp_pl, tp_rd, ?_⟩⟩
    · rw [h3, ov_up rfl, tp_ov]
    · rw [tp_o (by decide), q_up_s]
theorem zO_accept (σ s : q_S) (ch : Int) (hI : IX σ) (hp : 0 ≤ s 91 2 ∧ s 91 2 ≤ 140) : q_Ct mX6_accept shX [.inr (.inr 91), .inl ch] (ov σ s) (fun r σ' => ∃ v, r = some v ∧ (tT σ (s 91 2) = ch ∧ v = .inl 1 ∧ (∃ s', σ' = ov σ s' ∧ s' 91 2 = s 91 2 + 1 ∧ s' 93 = s 93) ∨ tT σ (s 91 2) ≠ ch ∧ v = .inl 0 ∧ σ' = ov σ s)) := by
  have h := zX6_accept (ov σ s) (s 91 2) (s 93) ch hI.2.2.2.1 hp
  have e : tp (ov σ s) (s 91 2) (s 93) = ov σ s := tp_self (σ := ov σ s)
  rw [e] at h
  refine h.imp ?_
  rintro r σ' ⟨v, hr, ⟨h1, h2, h3⟩ | ⟨h1, h2, h3⟩⟩
  · exact ⟨v, hr, Or.inl ⟨h1, h2, tp s (s 91 2 + 1) (s 93), h3.trans tp_ov, tp_pl, tp_rd⟩⟩
  · exact ⟨v, hr, Or.inr ⟨h1, h2, h3⟩⟩
theorem zO_faultPlace (σ s : q_S) (hI : IX σ) : q_Ct mX6_faultPlace shX [.inr (.inr 91)] (ov σ s) (fun r σ' => ∃ v, r = some v ∧ (v = .inl (pAll (tT σ) (σ 91 1) 120 0 (s 93)) ∧ ∃ s', σ' = ov σ s')) := by
  have h := zX6_faultPlace (ov σ s) (s 91 2) (s 93) hI.2.2.2.1 hI.2.2.2.2.1 (s 91 3)
  have e : tp (ov σ s) (s 91 2) (s 93) = ov σ s := tp_self (σ := ov σ s)
  rw [e] at h
  refine h.imp ?_
  rintro r σ' ⟨v, hr, h1, s3, pl', rd', h2⟩
  exact ⟨v, hr, h1, _, by rw [h2, ov_up rfl, tp_ov]⟩
set_option maxRecDepth 100000 in
theorem zX7_doSt102 (σ s : q_S) (hI : IX σ) (hc : s 91 3 = 102) : q_Ct mX7_doStatement shX [.inr (.inr 0)] (ov σ s) (fun r σ' => ∃ z, r = some z ∧ (z = .inl (oF (s 93 0) σ).1 ∧ ∃ s', σ' = ov (oF (s 93 0) σ).2 s' ∧ ∀ c : Int, c < 96 → s' c = s c)) := by
  refine q_ct 1 (by decide) rfl rfl ?_
  show q_WP mX7_doStatement shX 0 [some (.inr (.inr 0)), none] [] (ov σ s) _
  have hn := hI.1.2.1
  refine q_aload_n (n := 1) dX7_doStatement_0 rfl rfl ?_
  refine q_getR (n := 4) dX7_doStatement_1 rfl fX7_62 xi0 rfl ?_
  refine q_getR (n := 7) dX7_doStatement_4 rfl fX7_404 xi91 rfl ?_
  refine q_astore_n (n := 8) dX7_doStatement_7 rfl (Nat.le_of_ble_eq_true rfl) (q_s1_1 rfl) ?_
  refine q_aload_n (n := 9) dX7_doStatement_8 rfl rfl ?_
  refine q_getR (n := 12) dX7_doStatement_9 rfl fX7_62 xi0 rfl ?_
  refine q_getIE (102) (kI := 3) (n := 15) (by decide) dX7_doStatement_12 rfl fX7_407 xi91 rfl rfl hc ?_
  refine q_topI (102) rfl ?_
  refine q_lookup (off := 33) (t := 48) dX7_doStatement_15 (by decide) (by decide) (by decide) ?_
  refine q_aload_n (n := 49) dX7_doStatement_48 rfl rfl ?_
  refine q_getR (n := 52) dX7_doStatement_49 rfl fX7_12 xi0 rfl ?_
  refine q_aload_n (n := 53) dX7_doStatement_52 rfl rfl ?_
  refine q_iconst (n := 54) dX7_doStatement_53 rfl (k := ?_)
  refine q_ialoadE (s 93 0) (n := 55) dX7_doStatement_54 rfl xi93 ⟨by omega, by omega⟩ rfl ?_
  refine q_v1D (n := 58) dX7_doStatement_55 rfl (zO_strengthen _ σ _) vX3_strengthen lX7_86 rfl rfl xi1 rfl ?_
  refine q_iret dX7_doStatement_58 rfl (fun _ => rfl) ?_
  exact ⟨_, rfl, rfl, _, rfl, by first | exact hfr | exact fun _ _ => rfl⟩
set_option maxRecDepth 100000 in
theorem zX7_doSt107 (σ s : q_S) (hI : IX σ) (hc : s 91 3 = 107) : q_Ct mX7_doStatement shX [.inr (.inr 0)] (ov σ s) (fun r σ' => ∃ z, r = some z ∧ (z = .inl (oK (s 93 0) (s 93 1) σ).1 ∧ ∃ s', σ' = ov (oK (s 93 0) (s 93 1) σ).2 s' ∧ ∀ c : Int, c < 96 → s' c = s c)) := by
  refine q_ct 1 (by decide) rfl rfl ?_
  show q_WP mX7_doStatement shX 0 [some (.inr (.inr 0)), none] [] (ov σ s) _
  have hn := hI.1.2.1
  refine q_aload_n (n := 1) dX7_doStatement_0 rfl rfl ?_
  refine q_getR (n := 4) dX7_doStatement_1 rfl fX7_62 xi0 rfl ?_
  refine q_getR (n := 7) dX7_doStatement_4 rfl fX7_404 xi91 rfl ?_
  refine q_astore_n (n := 8) dX7_doStatement_7 rfl (Nat.le_of_ble_eq_true rfl) (q_s1_1 rfl) ?_
  refine q_aload_n (n := 9) dX7_doStatement_8 rfl rfl ?_
  refine q_getR (n := 12) dX7_doStatement_9 rfl fX7_62 xi0 rfl ?_
  refine q_getIE (107) (kI := 3) (n := 15) (by decide) dX7_doStatement_12 rfl fX7_407 xi91 rfl rfl hc ?_
  refine q_topI (107) rfl ?_
  refine q_lookup (off := 70) (t := 85) dX7_doStatement_15 (by decide) (by decide) (by decide) ?_
  refine q_aload_n (n := 86) dX7_doStatement_85 rfl rfl ?_
  refine q_aload_n (n := 87) dX7_doStatement_86 rfl rfl ?_
  refine q_iconst (n := 88) dX7_doStatement_87 rfl (k := ?_)
  refine q_ialoadE (s 93 0) (n := 89) dX7_doStatement_88 rfl xi93 ⟨by omega, by omega⟩ rfl ?_
  refine q_aload_n (n := 90) dX7_doStatement_89 rfl rfl ?_
  refine q_iconst (n := 91) dX7_doStatement_90 rfl (k := ?_)
  refine q_ialoadE (s 93 1) (n := 92) dX7_doStatement_91 rfl xi93 ⟨by omega, by omega⟩ rfl ?_
  refine q_v2 (n := 95) dX7_doStatement_92 rfl (zX7_tell _ _ σ _ hI) vX7_tell lX7_97 rfl rfl xi0 rfl (fun v92 σ92 h92 => ?_)
  obtain ⟨rfl, s2, rfl, hfr⟩ := h92
  · skip
    refine q_iret dX7_doStatement_95 rfl (fun _ => rfl) ?_
    exact ⟨_, rfl, rfl, _, rfl, by first | exact hfr | exact fun _ _ => rfl⟩
set_option maxRecDepth 100000 in
theorem zX7_doSt116 (σ s : q_S) (hI : IX σ) (hc : s 91 3 = 116) : q_Ct mX7_doStatement shX [.inr (.inr 0)] (ov σ s) (fun r σ' => ∃ z, r = some z ∧ (z = .inl (oT (s 93 0) (s 93 1) (s 93 2) (s 93 3) (s 93 4) (s 93 5) σ).1 ∧ ∃ s', σ' = ov (oT (s 93 0) (s 93 1) (s 93 2) (s 93 3) (s 93 4) (s 93 5) σ).2 s' ∧ ∀ c : Int, c < 96 → s' c = s c)) := by
  refine q_ct 1 (by decide) rfl rfl ?_
  show q_WP mX7_doStatement shX 0 [some (.inr (.inr 0)), none] [] (ov σ s) _
  have hn := hI.1.2.1
  refine q_aload_n (n := 1) dX7_doStatement_0 rfl rfl ?_
  refine q_getR (n := 4) dX7_doStatement_1 rfl fX7_62 xi0 rfl ?_
  refine q_getR (n := 7) dX7_doStatement_4 rfl fX7_404 xi91 rfl ?_
  refine q_astore_n (n := 8) dX7_doStatement_7 rfl (Nat.le_of_ble_eq_true rfl) (q_s1_1 rfl) ?_
  refine q_aload_n (n := 9) dX7_doStatement_8 rfl rfl ?_
  refine q_getR (n := 12) dX7_doStatement_9 rfl fX7_62 xi0 rfl ?_
  refine q_getIE (116) (kI := 3) (n := 15) (by decide) dX7_doStatement_12 rfl fX7_407 xi91 rfl rfl hc ?_
  refine q_topI (116) rfl ?_
  refine q_lookup (off := 44) (t := 59) dX7_doStatement_15 (by decide) (by decide) (by decide) ?_
  refine q_aload_n (n := 60) dX7_doStatement_59 rfl rfl ?_
  refine q_getR (n := 63) dX7_doStatement_60 rfl fX7_12 xi0 rfl ?_
  refine q_aload_n (n := 64) dX7_doStatement_63 rfl rfl ?_
  refine q_iconst (n := 65) dX7_doStatement_64 rfl (k := ?_)
  refine q_ialoadE (s 93 0) (n := 66) dX7_doStatement_65 rfl xi93 ⟨by omega, by omega⟩ rfl ?_
  refine q_aload_n (n := 67) dX7_doStatement_66 rfl rfl ?_
  refine q_iconst (n := 68) dX7_doStatement_67 rfl (k := ?_)
  refine q_ialoadE (s 93 1) (n := 69) dX7_doStatement_68 rfl xi93 ⟨by omega, by omega⟩ rfl ?_
  refine q_aload_n (n := 70) dX7_doStatement_69 rfl rfl ?_
  refine q_iconst (n := 71) dX7_doStatement_70 rfl (k := ?_)
  refine q_ialoadE (s 93 2) (n := 72) dX7_doStatement_71 rfl xi93 ⟨by omega, by omega⟩ rfl ?_
  refine q_aload_n (n := 73) dX7_doStatement_72 rfl rfl ?_
  refine q_iconst (n := 74) dX7_doStatement_73 rfl (k := ?_)
  refine q_ialoadE (s 93 3) (n := 75) dX7_doStatement_74 rfl xi93 ⟨by omega, by omega⟩ rfl ?_
  refine q_aload_n (n := 76) dX7_doStatement_75 rfl rfl ?_
  refine q_iconst (n := 77) dX7_doStatement_76 rfl (k := ?_)
  refine q_ialoadE (s 93 4) (n := 78) dX7_doStatement_77 rfl xi93 ⟨by omega, by omega⟩ rfl ?_
  refine q_aload_n (n := 79) dX7_doStatement_78 rfl rfl ?_
  refine q_iconst (n := 80) dX7_doStatement_79 rfl (k := ?_)
  refine q_ialoadE (s 93 5) (n := 81) dX7_doStatement_80 rfl xi93 ⟨by omega, by omega⟩ rfl ?_
  refine q_v6D (n := 84) dX7_doStatement_81 rfl (zO_addTrack _ _ _ _ _ _ σ _ hn) vX3_addTrack lX7_93 rfl rfl xi1 rfl ?_
  refine q_iret dX7_doStatement_84 rfl (fun _ => rfl) ?_
  exact ⟨_, rfl, rfl, _, rfl, by first | exact hfr | exact fun _ _ => rfl⟩
set_option maxRecDepth 100000 in
theorem zX7_doSt118 (σ s : q_S) (hI : IX σ) (hc : s 91 3 = 118) : q_Ct mX7_doStatement shX [.inr (.inr 0)] (ov σ s) (fun r σ' => ∃ z, r = some z ∧ (z = .inl (oV (s 93 0) (s 93 1) (s 93 2) (s 93 3) σ).1 ∧ ∃ s', σ' = ov (oV (s 93 0) (s 93 1) (s 93 2) (s 93 3) σ).2 s' ∧ ∀ c : Int, c < 96 → s' c = s c)) := by
  refine q_ct 1 (by decide) rfl rfl ?_
  show q_WP mX7_doStatement shX 0 [some (.inr (.inr 0)), none] [] (ov σ s) _
  have hn := hI.1.2.1
  refine q_aload_n (n := 1) dX7_doStatement_0 rfl rfl ?_
  refine q_getR (n := 4) dX7_doStatement_1 rfl fX7_62 xi0 rfl ?_
  refine q_getR (n := 7) dX7_doStatement_4 rfl fX7_404 xi91 rfl ?_
  refine q_astore_n (n := 8) dX7_doStatement_7 rfl (Nat.le_of_ble_eq_true rfl) (q_s1_1 rfl) ?_
  refine q_aload_n (n := 9) dX7_doStatement_8 rfl rfl ?_
  refine q_getR (n := 12) dX7_doStatement_9 rfl fX7_62 xi0 rfl ?_
  refine q_getIE (118) (kI := 3) (n := 15) (by decide) dX7_doStatement_12 rfl fX7_407 xi91 rfl rfl hc ?_
  refine q_topI (118) rfl ?_
  refine q_lookup (off := 81) (t := 96) dX7_doStatement_15 (by decide) (by decide) (by decide) ?_
  refine q_aload_n (n := 97) dX7_doStatement_96 rfl rfl ?_
  refine q_aload_n (n := 98) dX7_doStatement_97 rfl rfl ?_
  refine q_iconst (n := 99) dX7_doStatement_98 rfl (k := ?_)
  refine q_ialoadE (s 93 0) (n := 100) dX7_doStatement_99 rfl xi93 ⟨by omega, by omega⟩ rfl ?_
  refine q_aload_n (n := 101) dX7_doStatement_100 rfl rfl ?_
  refine q_iconst (n := 102) dX7_doStatement_101 rfl (k := ?_)
  refine q_ialoadE (s 93 1) (n := 103) dX7_doStatement_102 rfl xi93 ⟨by omega, by omega⟩ rfl ?_
  refine q_aload_n (n := 104) dX7_doStatement_103 rfl rfl ?_
  refine q_iconst (n := 105) dX7_doStatement_104 rfl (k := ?_)
  refine q_ialoadE (s 93 2) (n := 106) dX7_doStatement_105 rfl xi93 ⟨by omega, by omega⟩ rfl ?_
  refine q_aload_n (n := 107) dX7_doStatement_106 rfl rfl ?_
  refine q_iconst (n := 108) dX7_doStatement_107 rfl (k := ?_)
  refine q_ialoadE (s 93 3) (n := 109) dX7_doStatement_108 rfl xi93 ⟨by omega, by omega⟩ rfl ?_
  refine q_v4 (n := 112) dX7_doStatement_109 rfl (zX7_tie _ _ _ _ σ _ hI) vX7_tie lX7_101 rfl rfl xi0 rfl (fun v109 σ109 h109 => ?_)
  obtain ⟨rfl, s2, rfl, hfr⟩ := h109
  · skip
    refine q_iret dX7_doStatement_112 rfl (fun _ => rfl) ?_
    exact ⟨_, rfl, rfl, _, rfl, by first | exact hfr | exact fun _ _ => rfl⟩
theorem zX7_doStatement (σ s : q_S) (hI : IX σ) (c : Int) (hc : c = 102 ∨ c = 107 ∨ c = 116 ∨ c = 118) (h3 : s 91 3 = c) : q_Ct mX7_doStatement shX [.inr (.inr 0)] (ov σ s) (fun r σ' => ∃ z, r = some z ∧ (z = .inl (doP c (s 93) σ).1 ∧ ∃ s', σ' = ov (doP c (s 93) σ).2 s' ∧ ∀ c : Int, c < 96 → s' c = s c)) := by
  rcases hc with rfl | rfl | rfl | rfl
  · exact zX7_doSt102 σ s hI h3
  · exact zX7_doSt107 σ s hI h3
  · exact zX7_doSt116 σ s hI h3
  · exact zX7_doSt118 σ s hI h3
theorem pStat_c {T : Int → Int} {pl q : Int} {rd rd' : Int → Int} (h : pStat T pl rd = .inr (rd', q)) : T pl = 102 ∨ T pl = 107 ∨ T pl = 116 ∨ T pl = 118 := by
  unfold pStat at h
  by_cases a1 : T pl = 102
  · exact Or.inl a1
  · rw [if_neg a1] at h
    by_cases a2 : T pl = 116
    · exact Or.inr (Or.inr (Or.inl a2))
    · rw [if_neg a2] at h
      by_cases a3 : T pl = 107
      · exact Or.inr (Or.inl a3)
      · rw [if_neg a3] at h
        by_cases a4 : T pl = 118
        · exact Or.inr (Or.inr (Or.inr a4))
        · rw [if_neg a4] at h
          cases h
/-- what the statements leave -/
def QD (σ0 : q_S) (D : Int × Bool × q_S) (r : Option q_V) (σ' : q_S) : Prop := r = some (.inl D.1) ∧ ((D.2.1 = true ∧ ∃ s', σ' = ov (q_up D.2.2 8 2 0) s') ∨ (D.2.1 = false ∧ ∃ τ s', pcopied D.2.2 τ (10 + 7 * σ0 8 1) 1 ∧ σ' = ov τ s'))
theorem zO_layDraftBack (σ s : q_S) (hn : 0 ≤ σ 8 1 ∧ σ 8 1 < 9) : q_Ct mX1_layDraftBack shX [.inr (.inr 8), .inr (.inr 1)] (ov σ s) (fun r σ' => r = none ∧ (∃ τ, σ' = ov τ s ∧ pcopied σ τ (10 + 7 * σ 8 1) 1)) := by
  refine (zX1_layDraftBack (ov σ s) hn).imp ?_
  rintro r σ' ⟨hr, h⟩
  exact ⟨hr, pc_ov (by omega) (by decide) h⟩
theorem zO_forget (σ s : q_S) : q_Ct mX1_forget shX [.inr (.inr 8)] (ov σ s) (fun r σ' => r = none ∧ σ' = ov (q_up σ 8 2 0) s) := by
  refine (zX1_forget (ov σ s)).imp ?_
  rintro r σ' ⟨hr, rfl⟩
  exact ⟨hr, ov_upn rfl⟩
set_option maxRecDepth 100000 in
theorem exX7_ds (σ τ s : q_S) (k m : Int) (o3 : Option q_V) : q_WP mX7_doStatements shX 23 [some (.inr (.inr 0)), some (.inl k), some (.inl 0), o3] [] (ov τ s) (fun r σ' => r = some (.inl k) ∧ σ' = ov (q_up τ 8 2 0) s) := by
  refine q_iload_n (n := 24) dX7_doStatements_23 rfl rfl ?_
  refine q_if_eq (n := 27) (t := 89) dX7_doStatements_24 rfl (by decide) (fun h24 => ?_) (fun h24 => ?_)
  · skip
    refine q_aload_n (n := 90) dX7_doStatements_89 rfl rfl ?_
    refine q_getR (n := 93) dX7_doStatements_90 rfl fX7_21 xi0 rfl ?_
    refine q_v0U (n := 96) dX7_doStatements_93 rfl (zO_forget _ _) vX1_forget lX7_340 rfl rfl xi8 rfl ?_
    refine q_iload_n (n := 97) dX7_doStatements_96 rfl rfl ?_
    refine q_iret dX7_doStatements_97 rfl (fun _ => rfl) ?_
    exact ⟨rfl, rfl⟩
  · exact absurd h24 (by decide)
set_option maxHeartbeats 1000000 in
set_option maxRecDepth 100000 in
theorem lpX7_ds (σ : q_S) (hI : IX σ) : ∀ (n : Nat) (k pl : Int) (τ s : q_S) (o3 : Option q_V), (n : Int) + k = 120 → 0 ≤ k → s 91 2 = pl → (0 ≤ pl ∧ pl ≤ σ 91 1) → IX τ → (∀ c : Int, ¬ (1 ≤ c ∧ c ≤ 7) → ¬ (10 ≤ c ∧ c ≤ 72) → τ c = σ c) → pAll (tT σ) (σ 91 1) n pl (s 93) = -1 → q_WP mX7_doStatements shX 23 [some (.inr (.inr 0)), some (.inl k), some (.inl 1), o3] [] (ov τ s) (QD σ (doA (tT σ) n pl (s 93) k τ)) := by
  intro n
  induction n with
  | zero =>
    intro k pl τ s o3 hk h0 hpl hp hIt hot hpa
    rw [pAll] at hpa
    exact absurd hpa (by omega)
  | succ n ih =>
    intro k pl τ s o3 hk h0 hpl hp hIt hot hpa
    have eT : tT τ = tT σ := by unfold tT; rw [hot 91 (by decide) (by decide), hot 92 (by decide) (by decide)]
    have el : τ 91 = σ 91 := hot 91 (by decide) (by decide)
    have e8 : τ 8 = σ 8 := hot 8 (by decide) (by decide)
    rw [pAll] at hpa
    rw [doA]
    have hin := pStat_in (σ := σ) (rd := s 93) hp
    have hl := hI.2.2.2.1
    have hrs := zO_readStatement τ s hIt (by rw [hpl, el]; exact hp)
    rw [hpl, eT] at hrs
    refine q_iload_n (n := 24) dX7_doStatements_23 rfl rfl ?_
    refine q_if_eq (n := 27) (t := 89) dX7_doStatements_24 rfl (by decide) (fun h24 => ?_) (fun h24 => ?_)
    · exact absurd h24 (by decide)
    · skip
      refine q_iload_n (n := 28) dX7_doStatements_27 rfl rfl ?_
      refine q_bipush (n := 30) dX7_doStatements_28 rfl (k := ?_)
      refine q_icmp_ge (n := 33) (t := 89) dX7_doStatements_30 rfl (by decide) (fun h30 => ?_) (fun h30 => ?_)
      · exact absurd h30 (by omega)
      · skip
        refine q_aload_n (n := 34) dX7_doStatements_33 rfl rfl ?_
        refine q_getR (n := 37) dX7_doStatements_34 rfl fX7_62 xi0 rfl ?_
        refine q_getIE (pl) (kI := 2) (n := 40) (by decide) dX7_doStatements_37 rfl fX7_388 xi91 rfl rfl hpl ?_
        refine q_istore_n (n := 41) dX7_doStatements_40 rfl (Nat.le_of_ble_eq_true rfl) (q_s1_s (q_s1_s (q_s1_1 rfl))) ?_
        refine q_aload_n (n := 42) dX7_doStatements_41 rfl rfl ?_
        refine q_getR (n := 45) dX7_doStatements_42 rfl fX7_62 xi0 rfl ?_
        refine q_v0 (n := 48) dX7_doStatements_45 rfl hrs vX6_readStatement lX7_391 rfl rfl xi91 rfl (fun v45 σ45 h45 => ?_)
        have h45 := h45.resolve_left (fun ⟨q, hq, _⟩ => by
          rw [hq] at hpa
          dsimp only at hpa
          have := hin.1 _ hq
          omega)
        obtain ⟨rd', q, hq, rfl, s2, rfl, h2, h93, h3⟩ := h45
        rw [hq] at hpa ⊢
        dsimp only at hpa ⊢
        have hq2 := hin.2 _ _ hq
        have hIt2 : IX (doP (tT σ pl) rd' τ).2 := IX_of hIt (IPs_doP hIt.1) (fun c hc => doP_o hc)
        have eT2 : tT (doP (tT σ pl) rd' τ).2 = tT σ := by unfold tT; rw [doP_o (by decide), doP_o (by decide), hot 91 (by decide) (by decide), hot 92 (by decide) (by decide)]
        · skip
          refine q_pop (n := 49) dX7_doStatements_48 rfl rfl ?_
          refine q_aload_n (n := 50) dX7_doStatements_49 rfl rfl ?_
          refine q_v0 (n := 53) dX7_doStatements_50 rfl (zX7_doStatement τ s2 hIt _ (pStat_c hq) h3) vX7_doStatement lX7_394 rfl rfl xi0 rfl (fun v50 σ50 h50 => ?_)
          rw [h93] at h50
          obtain ⟨rfl, s3, rfl, hfr⟩ := h50
          · skip
            refine q_if_ge (n := 56) (t := 73) dX7_doStatements_53 rfl (by decide) (fun h53 => ?_) (fun h53 => ?_)
            · rw [if_neg (by omega)]
              refine q_iinc (n := 76) dX7_doStatements_73 rfl (Nat.le_of_ble_eq_true rfl) rfl (q_nwid ⟨by omega, by omega⟩) (q_s1_1 rfl) ?_
              refine q_aload_n (n := 77) dX7_doStatements_76 rfl rfl ?_
              refine q_getR (n := 80) dX7_doStatements_77 rfl fX7_62 xi0 rfl ?_
              refine q_bipush (n := 82) dX7_doStatements_80 rfl (k := ?_)
              refine q_v1 (n := 85) dX7_doStatements_82 rfl (zO_accept _ s3 59 hIt2 (by rw [hfr 91 (by decide), h2]; omega)) vX6_accept lX7_400 rfl rfl xi91 rfl (fun v82 σ82 h82 => ?_)
              rw [eT2, hfr 91 (by decide), h2] at h82
              rcases h82 with ⟨ha, rfl, s4, rfl, h4, h5⟩ | ⟨ha, rfl, rfl⟩
              · skip
                first
                  | (have hlt := tT_lt (σ := σ) (p := q) (by rw [ha]; decide)
                     rw [if_neg (by omega), if_pos ha] at hpa
                     rw [if_pos ha, doA_x n (q + 1) rd' (s4 93)])
                  | rw [if_neg ha]
                refine q_istore_n (n := 86) dX7_doStatements_85 rfl (Nat.le_of_ble_eq_true rfl) (q_s1_s (q_s1_1 rfl)) ?_
                refine q_go (t := 23) dX7_doStatements_86 (by decide) ?_
                refine ih (k + 1) (q + 1) _ s4 _ (by omega) (by omega) h4 (by omega) hIt2 (fun c h1 h2 => by rw [doP_o h1]; exact hot c h1 h2) ?_
                rw [pAll_x n (q + 1) (s4 93) rd']
                exact hpa
              · skip
                first
                  | (have hlt := tT_lt (σ := σ) (p := q) (by rw [ha]; decide)
                     rw [if_neg (by omega), if_pos ha] at hpa
                     rw [if_pos ha, doA_x n (q + 1) rd' (s4 93)])
                  | rw [if_neg ha]
                refine q_istore_n (n := 86) dX7_doStatements_85 rfl (Nat.le_of_ble_eq_true rfl) (q_s1_s (q_s1_1 rfl)) ?_
                refine q_go (t := 23) dX7_doStatements_86 (by decide) ?_
                exact (exX7_ds σ _ s3 (k + 1) 0 _).imp (fun r σ2 h => ⟨h.1, Or.inl ⟨rfl, _, h.2⟩⟩)
            · rw [if_pos (by omega)]
              refine q_aload_n (n := 57) dX7_doStatements_56 rfl rfl ?_
              refine q_getR (n := 60) dX7_doStatements_57 rfl fX7_21 xi0 rfl ?_
              refine q_aload_n (n := 61) dX7_doStatements_60 rfl rfl ?_
              refine q_getR (n := 64) dX7_doStatements_61 rfl fX7_12 xi0 rfl ?_
              refine q_v1W (n := 67) dX7_doStatements_64 rfl (zO_layDraftBack _ s3 (by rw [doP_o (by decide)]; exact hIt.2.1)) vX1_layDraftBack lX7_397 rfl rfl xi8 rfl (fun σ64 h64 => ?_)
              obtain ⟨τ3, rfl, hp3⟩ := h64
              · skip
                refine q_sipush (n := 70) dX7_doStatements_67 rfl (k := ?_)
                refine q_iload_n (n := 71) dX7_doStatements_70 rfl rfl ?_
                refine q_isubS (n := 72) dX7_doStatements_71 rfl ⟨by omega, by omega⟩ ?_
                refine q_iret dX7_doStatements_72 rfl (fun _ => rfl) ?_
                refine ⟨rfl, Or.inr ⟨rfl, τ3, s3, ?_, rfl⟩⟩
                rw [doP_o (by decide), e8] at hp3
                exact hp3
set_option maxRecDepth 100000 in
theorem zX7_doStatements (σ s : q_S) (hI : IX σ) (hpa : pA (tT σ) (σ 91 1) = -1) : q_Ct mX7_doStatements shX [.inr (.inr 0)] (ov σ s) (fun r σ' => ∃ z, r = some z ∧ (∃ σ1, pcopied σ σ1 1 (10 + 7 * σ 8 1) ∧ QD σ (dA (tT σ) σ1) (some z) σ')) := by
  refine q_ct 3 (by decide) rfl rfl ?_
  show q_WP mX7_doStatements shX 0 [some (.inr (.inr 0)), none, none, none] [] (ov σ s) _
  refine q_aload_n (n := 1) dX7_doStatements_0 rfl rfl ?_
  refine q_getR (n := 4) dX7_doStatements_1 rfl fX7_21 xi0 rfl ?_
  refine q_aload_n (n := 5) dX7_doStatements_4 rfl rfl ?_
  refine q_getR (n := 8) dX7_doStatements_5 rfl fX7_12 xi0 rfl ?_
  refine q_v1W (n := 11) dX7_doStatements_8 rfl (zO_draft _ _ hI.2.1) vX1_draft lX7_82 rfl rfl xi8 rfl (fun σ8 h8 => ?_)
  obtain ⟨σ1, rfl, hp⟩ := h8
  obtain ⟨hI1, he⟩ := IX_dr hI (by have := hI.2.1; omega) hp
  have hnx : 0 ≤ σ1 8 1 ∧ σ1 8 1 < 9 := hI1.2.1
  have hcg : 0 ≤ σ1 8 2 ∧ σ1 8 2 ≤ 8 := hI1.2.2.1
  have hn := hI1.1.2.1
  have hvv := hI1.1.2.2.1
  · skip
    refine q_aload_n (n := 12) dX7_doStatements_11 rfl rfl ?_
    refine q_getR (n := 15) dX7_doStatements_12 rfl fX7_62 xi0 rfl ?_
    refine q_iconst (n := 16) dX7_doStatements_15 rfl (k := ?_)
    refine q_putI (kI := 2) (n := 19) dX7_doStatements_16 rfl pX7_388 xi91 rfl rfl ?_
    rw [ov_up rfl]
    refine q_iconst (n := 20) dX7_doStatements_19 rfl (k := ?_)
    refine q_istore_n (n := 21) dX7_doStatements_20 rfl (Nat.le_of_ble_eq_true rfl) (q_s1_1 rfl) ?_
    refine q_iconst (n := 22) dX7_doStatements_21 rfl (k := ?_)
    refine q_istore_n (n := 23) dX7_doStatements_22 rfl (Nat.le_of_ble_eq_true rfl) (q_s1_s (q_s1_1 rfl)) ?_
    have hot : ∀ c : Int, ¬ (1 ≤ c ∧ c ≤ 7) → ¬ (10 ≤ c ∧ c ≤ 72) → σ1 c = σ c := fun c h1 h2 => by
      funext x
      exact hp.2.2.2.2 c x (by have := hI.2.1; omega)
    refine (lpX7_ds σ hI 120 0 0 σ1 (q_up s 91 2 0) _ (by decide) (by decide) q_up_s ⟨by decide, hI.2.2.2.1.1⟩ hI1 hot (by rw [pAll_x 120 0 _ z0]; exact hpa)).imp ?_
    intro r σ2 h
    rw [doA_x 120 0 _ z0] at h
    exact ⟨_, h.1, σ1, hp, by rw [h.1] at h; exact h⟩
theorem pAll_ge {σ : q_S} : ∀ (n : Nat) (p : Int) (f : Int → Int), (0 ≤ p ∧ p ≤ σ 91 1) → pAll (tT σ) (σ 91 1) n p f = -1 ∨ 0 ≤ pAll (tT σ) (σ 91 1) n p f := by
  intro n
  induction n with
  | zero => intro p f hp; exact Or.inr hp.1
  | succ n ih =>
    intro p f hp
    have hin := pStat_in (σ := σ) (rd := f) hp
    rw [pAll]
    cases hn : pStat (tT σ) p f with
    | inl q =>
      have := hin.1 _ hn
      exact Or.inr (by dsimp only; omega)
    | inr xq =>
      obtain ⟨x, q⟩ := xq
      have := hin.2 _ _ hn
      dsimp only
      by_cases e : q = σ 91 1
      · rw [if_pos e]
        exact Or.inl rfl
      · rw [if_neg e]
        by_cases e2 : tT σ q = 59
        · rw [if_pos e2]
          exact ih (q + 1) x (by omega)
        · rw [if_neg e2]
          exact Or.inr (by omega)
set_option maxRecDepth 100000 in
theorem zX7_reads (σ s : q_S) (hI : IX σ) : q_Ct mX7_reads shX [.inr (.inr 0)] (ov σ s) (fun r σ' => (0 ≤ pA (tT σ) (σ 91 1) ∧ r = some (.inl (-1000 - pA (tT σ) (σ 91 1))) ∧ ∃ s', σ' = ov (q_up σ 91 1 0) s') ∨ (¬ 0 ≤ pA (tT σ) (σ 91 1) ∧ ∃ σ1, pcopied σ σ1 1 (10 + 7 * σ 8 1) ∧ r = some (.inl (dA (tT σ) σ1).1) ∧ (((dA (tT σ) σ1).2.1 = true ∧ ∃ s', σ' = ov (q_up (q_up (dA (tT σ) σ1).2.2 8 2 0) 91 1 0) s') ∨ ((dA (tT σ) σ1).2.1 = false ∧ ∃ τ s', pcopied (dA (tT σ) σ1).2.2 τ (10 + 7 * σ 8 1) 1 ∧ σ' = ov (q_up τ 91 1 0) s')))) := by
  refine q_ct 2 (by decide) rfl rfl ?_
  show q_WP mX7_reads shX 0 [some (.inr (.inr 0)), none, none] [] (ov σ s) _
  have hpa := pAll_ge (σ := σ) 120 0 z0 ⟨by decide, hI.2.2.2.1.1⟩
  refine q_aload_n (n := 1) dX7_reads_0 rfl rfl ?_
  refine q_getR (n := 4) dX7_reads_1 rfl fX7_62 xi0 rfl ?_
  refine q_v0 (n := 7) dX7_reads_4 rfl (zO_faultPlace σ s hI) vX6_faultPlace lX7_296 rfl rfl xi91 rfl (fun v4 σ4 h4 => ?_)
  obtain ⟨rfl, s1, rfl⟩ := h4
  have hpx := pAll_x (T := tT σ) (len := σ 91 1) 120 0 (s 93) z0
  rw [hpx]
  have hle := pAll_le (σ := σ) 120 0 z0 ⟨by decide, hI.2.2.2.1.1⟩
  have hl9 := hI.2.2.2.1
  · skip
    refine q_istore_n (n := 8) dX7_reads_7 rfl (Nat.le_of_ble_eq_true rfl) (q_s1_1 rfl) ?_
    refine q_iload_n (n := 9) dX7_reads_8 rfl rfl ?_
    refine q_if_lt (n := 12) (t := 20) dX7_reads_9 rfl (by decide) (fun h9 => ?_) (fun h9 => ?_)
    · skip
      refine q_aload_n (n := 21) dX7_reads_20 rfl rfl ?_
      refine q_v0 (n := 24) dX7_reads_21 rfl (zX7_doStatements σ s1 hI (by unfold pA; omega)) vX7_doStatements lX7_299 rfl rfl xi0 rfl (fun v21 σ21 h21 => ?_)
      obtain ⟨σ1, hp, hD, hE⟩ := h21
      cases hD
      · skip
        refine q_istore_n (n := 25) dX7_reads_24 rfl (Nat.le_of_ble_eq_true rfl) (q_s1_s (q_s1_1 rfl)) ?_
        refine q_aload_n (n := 26) dX7_reads_25 rfl rfl ?_
        refine q_getR (n := 29) dX7_reads_26 rfl fX7_62 xi0 rfl ?_
        refine q_iconst (n := 30) dX7_reads_29 rfl (k := ?_)
        refine q_putI (kI := 1) (n := 33) dX7_reads_30 rfl pX7_171 xi91 rfl rfl ?_
        refine q_iload_n (n := 34) dX7_reads_33 rfl rfl ?_
        refine q_iret dX7_reads_34 rfl (fun _ => rfl) ?_
        first
          | exact Or.inl ⟨by unfold pA; omega, rfl, _, ov_upn rfl⟩
          | (rcases hE with ⟨h1, s2, rfl⟩ | ⟨h1, τ, s2, h2, rfl⟩
             · exact Or.inr ⟨by unfold pA; omega, σ1, hp, rfl, Or.inl ⟨h1, s2, ov_upn rfl⟩⟩
             · exact Or.inr ⟨by unfold pA; omega, σ1, hp, rfl, Or.inr ⟨h1, τ, s2, h2, ov_upn rfl⟩⟩)
    · skip
      refine q_sipush (n := 15) dX7_reads_12 rfl (k := ?_)
      refine q_iload_n (n := 16) dX7_reads_15 rfl rfl ?_
      refine q_isubS (n := 17) dX7_reads_16 rfl ⟨by omega, by omega⟩ ?_
      refine q_go (t := 24) dX7_reads_17 (by decide) ?_
      refine q_istore_n (n := 25) dX7_reads_24 rfl (Nat.le_of_ble_eq_true rfl) (q_s1_s (q_s1_1 rfl)) ?_
      refine q_aload_n (n := 26) dX7_reads_25 rfl rfl ?_
      refine q_getR (n := 29) dX7_reads_26 rfl fX7_62 xi0 rfl ?_
      refine q_iconst (n := 30) dX7_reads_29 rfl (k := ?_)
      refine q_putI (kI := 1) (n := 33) dX7_reads_30 rfl pX7_171 xi91 rfl rfl ?_
      refine q_iload_n (n := 34) dX7_reads_33 rfl rfl ?_
      refine q_iret dX7_reads_34 rfl (fun _ => rfl) ?_
      first
        | exact Or.inl ⟨by unfold pA; omega, rfl, _, ov_upn rfl⟩
        | (rcases hE with ⟨h1, s2, rfl⟩ | ⟨h1, τ, s2, h2, rfl⟩
           · exact Or.inr ⟨by unfold pA; omega, σ1, hp, rfl, Or.inl ⟨h1, s2, ov_upn rfl⟩⟩
           · exact Or.inr ⟨by unfold pA; omega, σ1, hp, rfl, Or.inr ⟨h1, τ, s2, h2, ov_upn rfl⟩⟩)
