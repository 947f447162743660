theorem zX8_vP0 (v : Int) (σ s : q_S) (hv : 0 ≤ v ∧ v < 4) : q_Ct mX8_vertexAt shM [.inr (.inr 0), .inl v, .inl 0] (ovM σ s) (fun r σ' => r = some (.inl (pM (σ 1) 4 v)) ∧ σ' = ovM σ s) := zX8_vertexAt v 0 σ s hv (by decide)
theorem zX8_vP1 (v : Int) (σ s : q_S) (hv : 0 ≤ v ∧ v < 4) : q_Ct mX8_vertexAt shM [.inr (.inr 0), .inl v, .inl 1] (ovM σ s) (fun r σ' => r = some (.inl (pM (σ 1) 5 v)) ∧ σ' = ovM σ s) := zX8_vertexAt v 1 σ s hv (by decide)
theorem zX8_vP2 (v : Int) (σ s : q_S) (hv : 0 ≤ v ∧ v < 4) : q_Ct mX8_vertexAt shM [.inr (.inr 0), .inl v, .inl 2] (ovM σ s) (fun r σ' => r = some (.inl (pM (σ 1) 6 v)) ∧ σ' = ovM σ s) := zX8_vertexAt v 2 σ s hv (by decide)
theorem zX8_vP3 (v : Int) (σ s : q_S) (hv : 0 ≤ v ∧ v < 4) : q_Ct mX8_vertexAt shM [.inr (.inr 0), .inl v, .inl 3] (ovM σ s) (fun r σ' => r = some (.inl (pM (σ 1) 7 v)) ∧ σ' = ovM σ s) := zX8_vertexAt v 3 σ s hv (by decide)
/-- the sums stand for the class's sums, in lowest terms -/
def rpM (s : q_S) (L : Int × Int × Int) : Prop := (1 ≤ s 0 18 ∧ Int.gcd (s 0 17) (s 0 18) = 1 ∧ s 0 17 * L.2.2 = L.1 * s 0 18) ∧ (1 ≤ s 0 20 ∧ Int.gcd (s 0 19) (s 0 20) = 1 ∧ s 0 19 * L.2.2 = L.2.1 * s 0 20)
theorem rpM_o {s s' : q_S} {L : Int × Int × Int} (h : rpM s L) (ho : ∀ x : Int, 17 ≤ x → x ≤ 20 → s' 0 x = s 0 x) : rpM s' L := by
  unfold rpM at *
  rw [ho 17 (by decide) (by decide), ho 18 (by decide) (by decide), ho 19 (by decide) (by decide), ho 20 (by decide) (by decide)]
  exact h
theorem rpM_ad {s s' : q_S} {L : Int × Int × Int} {x y b : Int} (h : rpM s L) (hb : 1 ≤ b) (hs : s' 0 17 = adS (s 0 17) (s 0 18) x b ∧ s' 0 18 = adO (s 0 17) (s 0 18) x b ∧ s' 0 19 = adS (s 0 19) (s 0 20) y b ∧ s' 0 20 = adO (s 0 19) (s 0 20) y b) : rpM s' (jn L x y b) := by
  obtain ⟨⟨h1, h2, h3⟩, h4, h5, h6⟩ := h
  obtain ⟨e1, e2, e3, e4⟩ := hs
  have r1 := ad_rep (x := x) h1 hb h3
  have r2 := ad_rep (x := y) h4 hb h6
  unfold rpM jn
  rw [e1, e2, e3, e4]
  exact ⟨⟨r1.2.1, r1.2.2, r1.1⟩, r2.2.1, r2.2.2, r2.1⟩
theorem KK {i : Int} (h : 0 ≤ i ∧ i ≤ 3) : KX i * 6400 ≤ 4600000000000000000 ∧ 4608000 * KW i ≤ 4600000000000000000 ∧ KW i * 6400 ≤ 4600000000000000000 ∧ (0 ≤ KX i ∧ KX i ≤ 4600000000000000000) ∧ 1 ≤ KW i ∧ KW i ≤ 4600000000000000000 := by
  rcases (by omega : i = 0 ∨ i = 1 ∨ i = 2 ∨ i = 3) with rfl | rfl | rfl | rfl <;> decide
set_option maxHeartbeats 1000000 in
set_option maxRecDepth 100000 in
theorem lpX8_tl (σ : q_S) (v wo : Int) (hI : IM σ) (hv : 0 ≤ v ∧ v < σ 1 2) (hb : balb (pM (σ 1) 2) (σ 1 1) (pM (σ 1) 6 v) (pM (σ 1) 7 v) = true) : ∀ (n : Nat) (i : Int) (s : q_S) (L : Int × Int × Int) (o4 o5 : Option q_V), (n : Int) + i = mC (pM (σ 1) 6 v) (pM (σ 1) 7 v) (σ 1 1) → 0 ≤ i → s 0 16 = mC (pM (σ 1) 6 v) (pM (σ 1) 7 v) (σ 1 1) → (∀ j, 0 ≤ j → j < mC (pM (σ 1) 6 v) (pM (σ 1) 7 v) (σ 1 1) → s 9 j = mF (pM (σ 1) 6 v) (pM (σ 1) 7 v) (σ 1 1) j) → rpM s L → jok i L → q_WP mX8_tellsLost shM 27 [some (.inr (.inr 0)), some (.inl v), some (.inl wo), some (.inl i), o4, o5, none] [] (ovM σ s) (fun r σ' => r = none ∧ (∃ s', σ' = ovM σ s' ∧ rpM s' (lsL (pM (σ 1) 2) (σ 1 0) (pM (σ 1) 4 v) (pM (σ 1) 5 v) (pM (σ 1) 6 v) wo (mF (pM (σ 1) 6 v) (pM (σ 1) 7 v) (σ 1 1)) n i L))) := by
  have hn := hI.nt
  have hvv := hI.nv
  have hvt := hI.tie hv
  have hmc := mem_C hn hvt.2.2
  have hq := hI.fq
  intro n
  induction n with
  | zero =>
    intro i s L o4 o5 hi h0 hm0 hm hr hj
    refine q_iload_n (n := 28) dX8_tellsLost_27 rfl rfl ?_
    refine q_aload_n (n := 29) dX8_tellsLost_28 rfl rfl ?_
    refine q_getIE (mC (pM (σ 1) 6 v) (pM (σ 1) 7 v) (σ 1 1)) (kI := 16) (n := 32) (by decide) dX8_tellsLost_29 rfl fX8_218 mi0 rfl rfl hm0 ?_
    refine q_icmp_ge (n := 35) (t := 118) dX8_tellsLost_32 rfl (by decide) (fun h32 => ?_) (fun h32 => ?_)
    · skip
      refine q_vret dX8_tellsLost_118 rfl ?_
      exact ⟨rfl, s, rfl, hr⟩
    · exact absurd h32 (by omega)
  | succ n ih =>
    intro i s L o4 o5 hi h0 hm0 hm hr hj
    have ht0 := hI.mem hv (j := i) ⟨h0, by omega⟩
    have hmi := hm i h0 (by omega)
    obtain ⟨t, ht⟩ : ∃ t, t = mF (pM (σ 1) 6 v) (pM (σ 1) 7 v) (σ 1 1) i := ⟨_, rfl⟩
    rw [← ht] at ht0 hmi
    have hg := hI.pt ht0
    have hB := balb_at hb (j := i) ⟨h0, by omega⟩
    rw [← ht] at hB
    have hub := un_bd hg hB
    have hpx := pXY_div hg hB hq hvt.1 hvt.2.1
    have hkk := KK (i := i) ⟨h0, by omega⟩
    refine q_iload_n (n := 28) dX8_tellsLost_27 rfl rfl ?_
    refine q_aload_n (n := 29) dX8_tellsLost_28 rfl rfl ?_
    refine q_getIE (mC (pM (σ 1) 6 v) (pM (σ 1) 7 v) (σ 1 1)) (kI := 16) (n := 32) (by decide) dX8_tellsLost_29 rfl fX8_218 mi0 rfl rfl hm0 ?_
    refine q_icmp_ge (n := 35) (t := 118) dX8_tellsLost_32 rfl (by decide) (fun h32 => ?_) (fun h32 => ?_)
    · exact absurd h32 (by omega)
    · skip
      refine q_aload_n (n := 36) dX8_tellsLost_35 rfl rfl ?_
      refine q_getR (n := 39) dX8_tellsLost_36 rfl fX8_48 mi0 rfl ?_
      refine q_iload_n (n := 40) dX8_tellsLost_39 rfl rfl ?_
      refine q_ialoadE (t) (n := 41) dX8_tellsLost_40 rfl mi9 ⟨by omega, by omega⟩ hmi ?_
      refine q_istore (n := 43) dX8_tellsLost_41 rfl (Nat.le_of_ble_eq_true rfl) (q_s1_s (q_s1_s (q_s1_s (q_s1_1 rfl)))) ?_
      refine q_iload (n := 45) dX8_tellsLost_43 rfl rfl ?_
      refine q_iload_n (n := 46) dX8_tellsLost_45 rfl rfl ?_
      refine q_icmp_ne (n := 49) (t := 52) dX8_tellsLost_46 rfl (by decide) (fun h46 => ?_) (fun h46 => ?_)
      · skip
        refine q_aload_n (n := 53) dX8_tellsLost_52 rfl rfl ?_
        refine q_iload (n := 55) dX8_tellsLost_53 rfl rfl ?_
        refine q_aload_n (n := 56) dX8_tellsLost_55 rfl rfl ?_
        refine q_iload_n (n := 57) dX8_tellsLost_56 rfl rfl ?_
        refine q_iconst (n := 58) dX8_tellsLost_57 rfl (k := ?_)
        refine q_v2D (n := 61) dX8_tellsLost_58 rfl (zX8_vP0 _ σ _ ⟨by omega, by omega⟩) vX8_vertexAt lX8_185 rfl rfl mi0 rfl ?_
        refine q_aload_n (n := 62) dX8_tellsLost_61 rfl rfl ?_
        refine q_iload_n (n := 63) dX8_tellsLost_62 rfl rfl ?_
        refine q_iconst (n := 64) dX8_tellsLost_63 rfl (k := ?_)
        refine q_v2D (n := 67) dX8_tellsLost_64 rfl (zX8_vP1 _ σ _ ⟨by omega, by omega⟩) vX8_vertexAt lX8_185 rfl rfl mi0 rfl ?_
        refine q_v3W (n := 70) dX8_tellsLost_67 rfl (zX8_tellsPush t (pM (σ 1) 4 v) (pM (σ 1) 5 v) σ _ hI ht0 hB hvt.1 hvt.2.1) vX8_tellsPush lX8_211 rfl rfl mi0 rfl (fun σ67 h67 => ?_)
        obtain ⟨s2, rfl, hps, hfr⟩ := h67
        have hr2 : rpM s2 L := rpM_o hr (fun x h1 h2 => hfr 0 x (by omega))
        have hd1 := red_bd hr2.1.1 hj.1.1 hr2.1.2.1 hr2.1.2.2 hj.2.1.1
        have hd2 := red_bd hr2.2.1 hj.1.1 hr2.2.2.1 hr2.2.2.2 hj.2.1.2
        · skip
          refine q_iload (n := 72) dX8_tellsLost_70 rfl rfl ?_
          refine q_aload_n (n := 73) dX8_tellsLost_72 rfl rfl ?_
          refine q_iload_n (n := 74) dX8_tellsLost_73 rfl rfl ?_
          refine q_iconst (n := 75) dX8_tellsLost_74 rfl (k := ?_)
          refine q_v2D (n := 78) dX8_tellsLost_75 rfl (zX8_vP2 _ σ _ ⟨by omega, by omega⟩) vX8_vertexAt lX8_185 rfl rfl mi0 rfl ?_
          refine q_icmp_ne (n := 81) (t := 85) dX8_tellsLost_78 rfl (by decide) (fun h78 => ?_) (fun h78 => ?_)
          · skip
            refine q_ldc2 (x := -1) (n := 88) dX8_tellsLost_85 rfl kX8_159 (k := ?_)
            have b72_ := (bd_c 1 (-1) (by decide))
            refine q_lstore (n := 90) dX8_tellsLost_88 rfl (Nat.le_of_ble_eq_true rfl) (q_s2_s (q_s2_s (q_s2_s (q_s2_s (q_s2_1 rfl))))) ?_
            refine q_aload_n (n := 91) dX8_tellsLost_90 rfl rfl ?_
            refine q_lload (n := 93) dX8_tellsLost_91 rfl rfl ?_
            refine q_aload_n (n := 94) dX8_tellsLost_93 rfl rfl ?_
            refine q_getJE (pX (pM (σ 1) 2) (σ 1 0) (pM (σ 1) 5 v) t) (kI := 13) (n := 97) dX8_tellsLost_94 rfl fX8_129 mi0 rfl rfl hps.1 ?_
            have b73_ := hpx.1.1
            have b74_ := bd_mul (C := 4608000) b72_ b73_ (by decide)
            refine q_lmulS (n := 98) dX8_tellsLost_97 rfl (bd_64 b74_ (by decide)) ?_
            refine q_lload (n := 100) dX8_tellsLost_98 rfl rfl ?_
            refine q_aload_n (n := 101) dX8_tellsLost_100 rfl rfl ?_
            refine q_getJE (pY (pM (σ 1) 2) (σ 1 0) (pM (σ 1) 4 v) t) (kI := 14) (n := 104) dX8_tellsLost_101 rfl fX8_132 mi0 rfl rfl hps.2.1 ?_
            have b75_ := hpx.1.2
            have b76_ := bd_mul (C := 4608000) b72_ b75_ (by decide)
            refine q_lmulS (n := 105) dX8_tellsLost_104 rfl (bd_64 b76_ (by decide)) ?_
            refine q_aload_n (n := 106) dX8_tellsLost_105 rfl rfl ?_
            refine q_getJE (un (pM (σ 1) 2) t) (kI := 12) (n := 109) dX8_tellsLost_106 rfl fX8_115 mi0 rfl rfl hps.2.2 ?_
            refine q_v3W (n := 112) dX8_tellsLost_109 rfl (zX8_adds _ _ (un (pM (σ 1) 2) t) (s2 0 17) (s2 0 18) (s2 0 19) (s2 0 20) (KX i) (KW i) 4608000 6400 σ s2 ⟨rfl, rfl, rfl, rfl⟩ ⟨hr2.1.1, by have := hd1.2; have := hj.1.2; omega⟩ ⟨hr2.2.1, by have := hd2.2; have := hj.1.2; omega⟩ ⟨by omega, hub.2⟩ hd1.1 hd2.1 (bd_mul (A := 1) (B := 4608000) ⟨by decide, by decide⟩ hpx.1.1 (by decide)) (bd_mul (A := 1) (B := 4608000) ⟨by decide, by decide⟩ hpx.1.2 (by decide)) hkk.1 hkk.2.1 hkk.2.2.1 ⟨hkk.2.2.2.1.1, by decide⟩ ⟨hkk.2.2.2.2.2, by decide, by decide, hkk.2.2.2.1.2⟩) vX8_adds lX8_236 rfl rfl mi0 rfl (fun σ109 h109 => ?_)
            obtain ⟨s3, rfl, hs3, hfr3⟩ := h109
            have hr3 := rpM_ad hr2 (by omega) hs3
            · skip
              refine q_iinc (n := 115) dX8_tellsLost_112 rfl (Nat.le_of_ble_eq_true rfl) rfl (q_nwid ⟨by omega, by omega⟩) (q_s1_s (q_s1_s (q_s1_1 rfl))) ?_
              refine q_go (t := 27) dX8_tellsLost_115 (by decide) ?_
              rw [lsL, ← ht]
              first
                | (rw [if_pos h46]
                   exact ih (i + 1) s L _ _ (by omega) (by omega) hm0 hm hr (jok_up hj (by omega)))
                | (rw [if_neg h46, if_pos h78]
                   rw [← jX_s, ← jY_s] at hr3
                   exact ih (i + 1) s3 _ _ _ (by omega) (by omega) (by rw [hfr3 0 16 (by decide), hfr 0 16 (by decide)]; exact hm0) (fun j h1 h2 => by rw [hfr3 9 j (by omega), hfr 9 j (by omega)]; exact hm j h1 h2) hr3 (jn_ok hj (by omega) (jX_bd hg hq hvt.2.1 ⟨by decide, by decide⟩) (jY_bd hg hq hvt.1 ⟨by decide, by decide⟩) (by omega)))
                | (rw [if_neg h46, if_neg h78]
                   rw [← jX_s, ← jY_s] at hr3
                   exact ih (i + 1) s3 _ _ _ (by omega) (by omega) (by rw [hfr3 0 16 (by decide), hfr 0 16 (by decide)]; exact hm0) (fun j h1 h2 => by rw [hfr3 9 j (by omega), hfr 9 j (by omega)]; exact hm j h1 h2) hr3 (jn_ok hj (by omega) (jX_bd hg hq hvt.2.1 ⟨by decide, by decide⟩) (jY_bd hg hq hvt.1 ⟨by decide, by decide⟩) (by omega)))
          · skip
            refine q_lconst (x := 1) (n := 82) dX8_tellsLost_81 rfl (k := ?_)
            have b77_ := (bd_c 1 1 (by decide))
            refine q_go (t := 88) dX8_tellsLost_82 (by decide) ?_
            refine q_lstore (n := 90) dX8_tellsLost_88 rfl (Nat.le_of_ble_eq_true rfl) (q_s2_s (q_s2_s (q_s2_s (q_s2_s (q_s2_1 rfl))))) ?_
            refine q_aload_n (n := 91) dX8_tellsLost_90 rfl rfl ?_
            refine q_lload (n := 93) dX8_tellsLost_91 rfl rfl ?_
            refine q_aload_n (n := 94) dX8_tellsLost_93 rfl rfl ?_
            refine q_getJE (pX (pM (σ 1) 2) (σ 1 0) (pM (σ 1) 5 v) t) (kI := 13) (n := 97) dX8_tellsLost_94 rfl fX8_129 mi0 rfl rfl hps.1 ?_
            have b78_ := hpx.1.1
            have b79_ := bd_mul (C := 4608000) b77_ b78_ (by decide)
            refine q_lmulS (n := 98) dX8_tellsLost_97 rfl (bd_64 b79_ (by decide)) ?_
            refine q_lload (n := 100) dX8_tellsLost_98 rfl rfl ?_
            refine q_aload_n (n := 101) dX8_tellsLost_100 rfl rfl ?_
            refine q_getJE (pY (pM (σ 1) 2) (σ 1 0) (pM (σ 1) 4 v) t) (kI := 14) (n := 104) dX8_tellsLost_101 rfl fX8_132 mi0 rfl rfl hps.2.1 ?_
            have b80_ := hpx.1.2
            have b81_ := bd_mul (C := 4608000) b77_ b80_ (by decide)
            refine q_lmulS (n := 105) dX8_tellsLost_104 rfl (bd_64 b81_ (by decide)) ?_
            refine q_aload_n (n := 106) dX8_tellsLost_105 rfl rfl ?_
            refine q_getJE (un (pM (σ 1) 2) t) (kI := 12) (n := 109) dX8_tellsLost_106 rfl fX8_115 mi0 rfl rfl hps.2.2 ?_
            refine q_v3W (n := 112) dX8_tellsLost_109 rfl (zX8_adds _ _ (un (pM (σ 1) 2) t) (s2 0 17) (s2 0 18) (s2 0 19) (s2 0 20) (KX i) (KW i) 4608000 6400 σ s2 ⟨rfl, rfl, rfl, rfl⟩ ⟨hr2.1.1, by have := hd1.2; have := hj.1.2; omega⟩ ⟨hr2.2.1, by have := hd2.2; have := hj.1.2; omega⟩ ⟨by omega, hub.2⟩ hd1.1 hd2.1 (bd_mul (A := 1) (B := 4608000) ⟨by decide, by decide⟩ hpx.1.1 (by decide)) (bd_mul (A := 1) (B := 4608000) ⟨by decide, by decide⟩ hpx.1.2 (by decide)) hkk.1 hkk.2.1 hkk.2.2.1 ⟨hkk.2.2.2.1.1, by decide⟩ ⟨hkk.2.2.2.2.2, by decide, by decide, hkk.2.2.2.1.2⟩) vX8_adds lX8_236 rfl rfl mi0 rfl (fun σ109 h109 => ?_)
            obtain ⟨s3, rfl, hs3, hfr3⟩ := h109
            have hr3 := rpM_ad hr2 (by omega) hs3
            · skip
              refine q_iinc (n := 115) dX8_tellsLost_112 rfl (Nat.le_of_ble_eq_true rfl) rfl (q_nwid ⟨by omega, by omega⟩) (q_s1_s (q_s1_s (q_s1_1 rfl))) ?_
              refine q_go (t := 27) dX8_tellsLost_115 (by decide) ?_
              rw [lsL, ← ht]
              first
                | (rw [if_pos h46]
                   exact ih (i + 1) s L _ _ (by omega) (by omega) hm0 hm hr (jok_up hj (by omega)))
                | (rw [if_neg h46, if_pos h78]
                   rw [← jX_s, ← jY_s] at hr3
                   exact ih (i + 1) s3 _ _ _ (by omega) (by omega) (by rw [hfr3 0 16 (by decide), hfr 0 16 (by decide)]; exact hm0) (fun j h1 h2 => by rw [hfr3 9 j (by omega), hfr 9 j (by omega)]; exact hm j h1 h2) hr3 (jn_ok hj (by omega) (jX_bd hg hq hvt.2.1 ⟨by decide, by decide⟩) (jY_bd hg hq hvt.1 ⟨by decide, by decide⟩) (by omega)))
                | (rw [if_neg h46, if_neg h78]
                   rw [← jX_s, ← jY_s] at hr3
                   exact ih (i + 1) s3 _ _ _ (by omega) (by omega) (by rw [hfr3 0 16 (by decide), hfr 0 16 (by decide)]; exact hm0) (fun j h1 h2 => by rw [hfr3 9 j (by omega), hfr 9 j (by omega)]; exact hm j h1 h2) hr3 (jn_ok hj (by omega) (jX_bd hg hq hvt.2.1 ⟨by decide, by decide⟩) (jY_bd hg hq hvt.1 ⟨by decide, by decide⟩) (by omega)))
      · skip
        refine q_go (t := 112) dX8_tellsLost_49 (by decide) ?_
        refine q_iinc (n := 115) dX8_tellsLost_112 rfl (Nat.le_of_ble_eq_true rfl) rfl (q_nwid ⟨by omega, by omega⟩) (q_s1_s (q_s1_s (q_s1_1 rfl))) ?_
        refine q_go (t := 27) dX8_tellsLost_115 (by decide) ?_
        rw [lsL, ← ht]
        first
          | (rw [if_pos h46]
             exact ih (i + 1) s L _ _ (by omega) (by omega) hm0 hm hr (jok_up hj (by omega)))
          | (rw [if_neg h46, if_pos h78]
             rw [← jX_s, ← jY_s] at hr3
             exact ih (i + 1) s3 _ _ _ (by omega) (by omega) (by rw [hfr3 0 16 (by decide), hfr 0 16 (by decide)]; exact hm0) (fun j h1 h2 => by rw [hfr3 9 j (by omega), hfr 9 j (by omega)]; exact hm j h1 h2) hr3 (jn_ok hj (by omega) (jX_bd hg hq hvt.2.1 ⟨by decide, by decide⟩) (jY_bd hg hq hvt.1 ⟨by decide, by decide⟩) (by omega)))
          | (rw [if_neg h46, if_neg h78]
             rw [← jX_s, ← jY_s] at hr3
             exact ih (i + 1) s3 _ _ _ (by omega) (by omega) (by rw [hfr3 0 16 (by decide), hfr 0 16 (by decide)]; exact hm0) (fun j h1 h2 => by rw [hfr3 9 j (by omega), hfr 9 j (by omega)]; exact hm j h1 h2) hr3 (jn_ok hj (by omega) (jX_bd hg hq hvt.2.1 ⟨by decide, by decide⟩) (jY_bd hg hq hvt.1 ⟨by decide, by decide⟩) (by omega)))
set_option maxRecDepth 100000 in
theorem zX8_tellsLost (v wo : Int) (σ s : q_S) (hI : IM σ) (hv : 0 ≤ v ∧ v < σ 1 2) (hb : balb (pM (σ 1) 2) (σ 1 1) (pM (σ 1) 6 v) (pM (σ 1) 7 v) = true) : q_Ct mX8_tellsLost shM [.inr (.inr 0), .inl v, .inl wo] (ovM σ s) (fun r σ' => r = none ∧ (∃ s', σ' = ovM σ s' ∧ rpM s' (lsb (pM (σ 1) 2) (σ 1 0) (σ 1 1) (pM (σ 1) 4 v) (pM (σ 1) 5 v) (pM (σ 1) 6 v) (pM (σ 1) 7 v) (wo)))) := by
  refine q_ct 4 (by decide) rfl rfl ?_
  show q_WP mX8_tellsLost shM 0 [some (.inr (.inr 0)), some (.inl v), some (.inl wo), none, none, none, none] [] (ovM σ s) _
  have hn := hI.nt
  have hvv := hI.nv
  have hvt := hI.tie hv
  have hmc := mem_C hn hvt.2.2
  refine q_aload_n (n := 1) dX8_tellsLost_0 rfl rfl ?_
  refine q_iload_n (n := 2) dX8_tellsLost_1 rfl rfl ?_
  refine q_v1W (n := 5) dX8_tellsLost_2 rfl (zX8_tellsThose v σ _ hI hv) vX8_tellsThose lX8_221 rfl rfl mi0 rfl (fun σ2 h2 => ?_)
  obtain ⟨s1, rfl, ⟨hm0, hm⟩, hfr1⟩ := h2
  · skip
    refine q_aload_n (n := 6) dX8_tellsLost_5 rfl rfl ?_
    refine q_lconst (x := 0) (n := 7) dX8_tellsLost_6 rfl (k := ?_)
    refine q_putJ (kI := 17) (n := 10) dX8_tellsLost_7 rfl pX8_227 mi0 rfl rfl ?_
    rw [om_up rfl]
    refine q_aload_n (n := 11) dX8_tellsLost_10 rfl rfl ?_
    refine q_lconst (x := 0) (n := 12) dX8_tellsLost_11 rfl (k := ?_)
    refine q_putJ (kI := 19) (n := 15) dX8_tellsLost_12 rfl pX8_233 mi0 rfl rfl ?_
    rw [om_up rfl]
    refine q_aload_n (n := 16) dX8_tellsLost_15 rfl rfl ?_
    refine q_lconst (x := 1) (n := 17) dX8_tellsLost_16 rfl (k := ?_)
    refine q_putJ (kI := 18) (n := 20) dX8_tellsLost_17 rfl pX8_224 mi0 rfl rfl ?_
    rw [om_up rfl]
    refine q_aload_n (n := 21) dX8_tellsLost_20 rfl rfl ?_
    refine q_lconst (x := 1) (n := 22) dX8_tellsLost_21 rfl (k := ?_)
    refine q_putJ (kI := 20) (n := 25) dX8_tellsLost_22 rfl pX8_230 mi0 rfl rfl ?_
    rw [om_up rfl]
    refine q_iconst (n := 26) dX8_tellsLost_25 rfl (k := ?_)
    refine q_istore_n (n := 27) dX8_tellsLost_26 rfl (Nat.le_of_ble_eq_true rfl) (q_s1_s (q_s1_s (q_s1_1 rfl))) ?_
    refine lpX8_tl σ v wo hI hv hb (mC (pM (σ 1) 6 v) (pM (σ 1) 7 v) (σ 1 1)).toNat 0 _ (0, 0, 1) _ _ (by omega) (by decide) ?_ ?_ ⟨⟨by show (1 : Int) ≤ 1; decide, by show Int.gcd 0 1 = 1; decide, by show (0 : Int) * 1 = 0 * 1; decide⟩, by show (1 : Int) ≤ 1; decide, by show Int.gcd 0 1 = 1; decide, by show (0 : Int) * 1 = 0 * 1; decide⟩ jok_0
    · rw [q_up_n (by decide), q_up_n (by decide), q_up_n (by decide), q_up_n (by decide)]
      exact hm0
    · intro j h1 h2
      rw [q_up_n (by omega), q_up_n (by omega), q_up_n (by omega), q_up_n (by omega)]
      exact hm j h1 h2
set_option maxRecDepth 100000 in
theorem zX8_isNothing (σ s : q_S) (X Y : Int) (h1 : s 0 17 = 0 ↔ X = 0) (h2 : s 0 19 = 0 ↔ Y = 0) : q_Ct mX8_isNothing shM [.inr (.inr 0)] (ovM σ s) (fun r σ' => r = some (.inl (if X = 0 ∧ Y = 0 then 1 else 0)) ∧ σ' = ovM σ s) := by
  refine q_ct 0 (by decide) rfl rfl ?_
  show q_WP mX8_isNothing shM 0 [some (.inr (.inr 0))] [] (ovM σ s) _
  refine q_aload_n (n := 1) dX8_isNothing_0 rfl rfl ?_
  refine q_getJE (s 0 17) (kI := 17) (n := 4) dX8_isNothing_1 rfl fX8_227 mi0 rfl rfl rfl ?_
  refine q_lconst (x := 0) (n := 5) dX8_isNothing_4 rfl (k := ?_)
  refine q_lcmp (n := 6) dX8_isNothing_5 rfl ?_
  refine q_if_ne (n := 9) (t := 22) dX8_isNothing_6 rfl (by decide) (fun h6 => ?_) (fun h6 => ?_)
  · have h6 := q_knet.mp h6
    refine q_iconst (n := 23) dX8_isNothing_22 rfl (k := ?_)
    refine q_iret dX8_isNothing_23 rfl (fun _ => rfl) ?_
    first | exact ⟨q_lf1 ⟨h1.mp (by assumption), h2.mp (by assumption)⟩, rfl⟩ | exact ⟨q_lf0 (fun z => absurd (h1.mpr z.1) (by assumption)), rfl⟩ | exact ⟨q_lf0 (fun z => absurd (h2.mpr z.2) (by assumption)), rfl⟩
  · have h6 := q_knef.mp h6
    refine q_aload_n (n := 10) dX8_isNothing_9 rfl rfl ?_
    refine q_getJE (s 0 19) (kI := 19) (n := 13) dX8_isNothing_10 rfl fX8_233 mi0 rfl rfl rfl ?_
    refine q_lconst (x := 0) (n := 14) dX8_isNothing_13 rfl (k := ?_)
    refine q_lcmp (n := 15) dX8_isNothing_14 rfl ?_
    refine q_if_ne (n := 18) (t := 22) dX8_isNothing_15 rfl (by decide) (fun h15 => ?_) (fun h15 => ?_)
    · have h15 := q_knet.mp h15
      refine q_iconst (n := 23) dX8_isNothing_22 rfl (k := ?_)
      refine q_iret dX8_isNothing_23 rfl (fun _ => rfl) ?_
      first | exact ⟨q_lf1 ⟨h1.mp (by assumption), h2.mp (by assumption)⟩, rfl⟩ | exact ⟨q_lf0 (fun z => absurd (h1.mpr z.1) (by assumption)), rfl⟩ | exact ⟨q_lf0 (fun z => absurd (h2.mpr z.2) (by assumption)), rfl⟩
    · have h15 := q_knef.mp h15
      refine q_iconst (n := 19) dX8_isNothing_18 rfl (k := ?_)
      refine q_go (t := 23) dX8_isNothing_19 (by decide) ?_
      refine q_iret dX8_isNothing_23 rfl (fun _ => rfl) ?_
      first | exact ⟨q_lf1 ⟨h1.mp (by assumption), h2.mp (by assumption)⟩, rfl⟩ | exact ⟨q_lf0 (fun z => absurd (h1.mpr z.1) (by assumption)), rfl⟩ | exact ⟨q_lf0 (fun z => absurd (h2.mpr z.2) (by assumption)), rfl⟩
set_option maxRecDepth 100000 in
theorem zX8_strength (sh : q_H) (x ox y oy : Int) (σ : q_S) (h1 : 1 ≤ ox) (h2 : 1 ≤ oy) (b1 : q_bd (x.tdiv ox) 18432000) (b2 : q_bd (y.tdiv oy) 18432000) : q_Ct mX8_strength sh [.inr (.inl x), .inr (.inl ox), .inr (.inl y), .inr (.inl oy)] σ (fun r σ' => r = some (.inr (.inl (x.tdiv ox * x.tdiv ox + y.tdiv oy * y.tdiv oy))) ∧ σ' = σ) := by
  refine q_ct 4 (by decide) rfl rfl ?_
  show q_WP mX8_strength sh 0 [some (.inr (.inl x)), none, some (.inr (.inl ox)), none, some (.inr (.inl y)), none, some (.inr (.inl oy)), none, none, none, none, none] [] σ _
  refine q_lload_n (n := 1) dX8_strength_0 rfl rfl ?_
  refine q_lload_n (n := 2) dX8_strength_1 rfl rfl ?_
  refine q_ldiv (n := 3) dX8_strength_2 rfl (by omega) ?_
  have b82_ := b1
  refine q_topJ (x.tdiv ox) (q_W_id (bd_i64 b1 (by decide))) ?_
  refine q_lstore (n := 5) dX8_strength_3 rfl (Nat.le_of_ble_eq_true rfl) (q_s2_s (q_s2_s (q_s2_s (q_s2_s (q_s2_s (q_s2_s (q_s2_s (q_s2_1 rfl)))))))) ?_
  refine q_lload (n := 7) dX8_strength_5 rfl rfl ?_
  refine q_lload (n := 9) dX8_strength_7 rfl rfl ?_
  refine q_ldiv (n := 10) dX8_strength_9 rfl (by omega) ?_
  have b83_ := b2
  refine q_topJ (y.tdiv oy) (q_W_id (bd_i64 b2 (by decide))) ?_
  refine q_lstore (n := 12) dX8_strength_10 rfl (Nat.le_of_ble_eq_true rfl) (q_s2_s (q_s2_s (q_s2_s (q_s2_s (q_s2_s (q_s2_s (q_s2_s (q_s2_s (q_s2_s (q_s2_1 rfl)))))))))) ?_
  refine q_lload (n := 14) dX8_strength_12 rfl rfl ?_
  refine q_lload (n := 16) dX8_strength_14 rfl rfl ?_
  have b84_ := bd_mul (C := 339738624000000) b82_ b82_ (by decide)
  refine q_lmulS (n := 17) dX8_strength_16 rfl (bd_64 b84_ (by decide)) ?_
  refine q_lload (n := 19) dX8_strength_17 rfl rfl ?_
  refine q_lload (n := 21) dX8_strength_19 rfl rfl ?_
  have b85_ := bd_mul (C := 339738624000000) b83_ b83_ (by decide)
  refine q_lmulS (n := 22) dX8_strength_21 rfl (bd_64 b85_ (by decide)) ?_
  have b86_ := bd_add (C := 679477248000000) b84_ b85_ (by decide)
  refine q_laddS (n := 23) dX8_strength_22 rfl (bd_64 b86_ (by decide)) ?_
  refine q_lret dX8_strength_23 rfl ?_
  exact ⟨rfl, rfl⟩
set_option maxRecDepth 100000 in
theorem zX8_lost (v x k : Int) (σ s : q_S) (hI : IM σ) : q_Ct mX8_lost shM [.inr (.inr 0), .inl v, .inl x, .inl k] (ovM σ s) (fun r σ' => r = some (.inr (.inl (fLost (σ 1 0) (σ 1 1) (σ 1 2) (pM (σ 1) 2) (pM (σ 1) 4) (pM (σ 1) 5) (pM (σ 1) 6) (pM (σ 1) 7) v x k))) ∧ ∃ s', σ' = ovM σ s') := by
  refine q_ct 0 (by decide) rfl rfl ?_
  show q_WP mX8_lost shM 0 [some (.inr (.inr 0)), some (.inl v), some (.inl x), some (.inl k)] [] (ovM σ s) _
  have hn := hI.nt
  have hvv := hI.nv
  refine q_aload_n (n := 1) dX8_lost_0 rfl rfl ?_
  refine q_iload_n (n := 2) dX8_lost_1 rfl rfl ?_
  refine q_v1D (n := 5) dX8_lost_2 rfl (zX8_isVertex _ σ _ (by omega)) vX8_isVertex lX8_192 rfl rfl mi0 rfl ?_
  refine q_if_eq (n := 8) (t := 38) dX8_lost_5 rfl (by decide) (fun h5 => ?_) (fun h5 => ?_)
  · have hv := q_b0.mp h5
    refine q_ldc2 (x := -9223372036854775808) (n := 41) dX8_lost_38 rfl kX8_190 (k := ?_)
    refine q_lret dX8_lost_41 rfl ?_
    refine ⟨congrArg some (congrArg Sum.inr (congrArg Sum.inl (Eq.symm ?_))), _, rfl⟩
    unfold fLost
    first
      | (refine if_neg (fun z => ?_)
         first
           | exact hv z.1.1
           | exact hb z.1.2
           | omega)
      | (rw [if_pos ⟨⟨hv, hb⟩, by omega, by omega⟩]
         first
           | (rw [if_pos h50, if_pos h54]
              unfold stren
              rw [d1, d2]
              done)
           | (rw [if_pos h50, if_neg h54]; done)
           | (rw [if_neg h50, if_pos h82, q1 k]
              first | exact if_pos h86 | exact if_neg h86)
           | (rw [if_neg h50, if_neg h82, q2 k]
              first | exact if_pos h104 | exact if_neg h104))
  · have hv := q_b1.mp h5
    have hvt := hI.tie hv
    have hmc := mem_C hn hvt.2.2
    refine q_iload_n (n := 9) dX8_lost_8 rfl rfl ?_
    refine q_i2l (n := 10) dX8_lost_9 rfl ?_
    refine q_lconst (x := 0) (n := 11) dX8_lost_10 rfl (k := ?_)
    refine q_ldc2 (x := 2) (n := 14) dX8_lost_11 rfl kX8_113 (k := ?_)
    refine q_c3D (n := 17) dX8_lost_14 rfl (zX8_in _ _ _ _ _) vX8_in lX8_13 rfl rfl ?_
    refine q_if_eq (n := 20) (t := 38) dX8_lost_17 rfl (by decide) (fun h17 => ?_) (fun h17 => ?_)
    · have h17 := q_b0.mp h17
      refine q_ldc2 (x := -9223372036854775808) (n := 41) dX8_lost_38 rfl kX8_190 (k := ?_)
      refine q_lret dX8_lost_41 rfl ?_
      refine ⟨congrArg some (congrArg Sum.inr (congrArg Sum.inl (Eq.symm ?_))), _, rfl⟩
      unfold fLost
      first
        | (refine if_neg (fun z => ?_)
           first
             | exact hv z.1.1
             | exact hb z.1.2
             | omega)
        | (rw [if_pos ⟨⟨hv, hb⟩, by omega, by omega⟩]
           first
             | (rw [if_pos h50, if_pos h54]
                unfold stren
                rw [d1, d2]
                done)
             | (rw [if_pos h50, if_neg h54]; done)
             | (rw [if_neg h50, if_pos h82, q1 k]
                first | exact if_pos h86 | exact if_neg h86)
             | (rw [if_neg h50, if_neg h82, q2 k]
                first | exact if_pos h104 | exact if_neg h104))
    · have h17 := q_b1.mp h17
      refine q_iload_n (n := 21) dX8_lost_20 rfl rfl ?_
      refine q_i2l (n := 22) dX8_lost_21 rfl ?_
      refine q_lconst (x := 0) (n := 23) dX8_lost_22 rfl (k := ?_)
      refine q_lconst (x := 1) (n := 24) dX8_lost_23 rfl (k := ?_)
      refine q_c3D (n := 27) dX8_lost_24 rfl (zX8_in _ _ _ _ _) vX8_in lX8_13 rfl rfl ?_
      refine q_if_eq (n := 30) (t := 38) dX8_lost_27 rfl (by decide) (fun h27 => ?_) (fun h27 => ?_)
      · have h27 := q_b0.mp h27
        refine q_ldc2 (x := -9223372036854775808) (n := 41) dX8_lost_38 rfl kX8_190 (k := ?_)
        refine q_lret dX8_lost_41 rfl ?_
        refine ⟨congrArg some (congrArg Sum.inr (congrArg Sum.inl (Eq.symm ?_))), _, rfl⟩
        unfold fLost
        first
          | (refine if_neg (fun z => ?_)
             first
               | exact hv z.1.1
               | exact hb z.1.2
               | omega)
          | (rw [if_pos ⟨⟨hv, hb⟩, by omega, by omega⟩]
             first
               | (rw [if_pos h50, if_pos h54]
                  unfold stren
                  rw [d1, d2]
                  done)
               | (rw [if_pos h50, if_neg h54]; done)
               | (rw [if_neg h50, if_pos h82, q1 k]
                  first | exact if_pos h86 | exact if_neg h86)
               | (rw [if_neg h50, if_neg h82, q2 k]
                  first | exact if_pos h104 | exact if_neg h104))
      · have h27 := q_b1.mp h27
        refine q_aload_n (n := 31) dX8_lost_30 rfl rfl ?_
        refine q_iload_n (n := 32) dX8_lost_31 rfl rfl ?_
        refine q_v1 (n := 35) dX8_lost_32 rfl (zX8_isBalanced v σ _ hI hv) vX8_isBalanced lX8_240 rfl rfl mi0 rfl (fun v32 σ32 h32 => ?_)
        obtain ⟨rfl, s32, rfl⟩ := h32
        · skip
          refine q_if_ne (n := 38) (t := 42) dX8_lost_35 rfl (by decide) (fun h35 => ?_) (fun h35 => ?_)
          · have hb := q_b1.mp h35
            have hj := fun wo => lsb_ok (wo := wo) hn hvt.2.2 hI.fq hvt.1 hvt.2.1 (fun t a b => hI.pt ⟨a, b⟩) hb
            have hj1 := hj (-1)
            refine q_aload_n (n := 43) dX8_lost_42 rfl rfl ?_
            refine q_iload_n (n := 44) dX8_lost_43 rfl rfl ?_
            refine q_iconst (n := 45) dX8_lost_44 rfl (k := ?_)
            refine q_v2W (n := 48) dX8_lost_45 rfl (zX8_tellsLost v (-1) σ _ hI hv hb) vX8_tellsLost lX8_243 rfl rfl mi0 rfl (fun σ45 h45 => ?_)
            obtain ⟨s45, rfl, hrp⟩ := h45
            have q1 := red_low hrp.1.1 hj1.1.1 hrp.1.2.1 hrp.1.2.2
            have q2 := red_low hrp.2.1 hj1.1.1 hrp.2.2.1 hrp.2.2.2
            have d1 := red_div hrp.1.1 hj1.1.1 hrp.1.2.1 hrp.1.2.2
            have d2 := red_div hrp.2.1 hj1.1.1 hrp.2.2.1 hrp.2.2.2
            have d3 := jok_div hj1 hmc.1
            · skip
              refine q_iload_n (n := 49) dX8_lost_48 rfl rfl ?_
              refine q_iconst (n := 50) dX8_lost_49 rfl (k := ?_)
              refine q_icmp_ne (n := 53) (t := 81) dX8_lost_50 rfl (by decide) (fun h50 => ?_) (fun h50 => ?_)
              · skip
                refine q_iload_n (n := 82) dX8_lost_81 rfl rfl ?_
                refine q_if_ne (n := 85) (t := 103) dX8_lost_82 rfl (by decide) (fun h82 => ?_) (fun h82 => ?_)
                · skip
                  refine q_iload_n (n := 104) dX8_lost_103 rfl rfl ?_
                  refine q_if_ne (n := 107) (t := 114) dX8_lost_104 rfl (by decide) (fun h104 => ?_) (fun h104 => ?_)
                  · skip
                    refine q_aload_n (n := 115) dX8_lost_114 rfl rfl ?_
                    refine q_getJE (s45 0 20) (kI := 20) (n := 118) dX8_lost_115 rfl fX8_230 mi0 rfl rfl rfl ?_
                    refine q_lret dX8_lost_118 rfl ?_
                    refine ⟨congrArg some (congrArg Sum.inr (congrArg Sum.inl (Eq.symm ?_))), _, rfl⟩
                    unfold fLost
                    first
                      | (refine if_neg (fun z => ?_)
                         first
                           | exact hv z.1.1
                           | exact hb z.1.2
                           | omega)
                      | (rw [if_pos ⟨⟨hv, hb⟩, by omega, by omega⟩]
                         first
                           | (rw [if_pos h50, if_pos h54]
                              unfold stren
                              rw [d1, d2]
                              done)
                           | (rw [if_pos h50, if_neg h54]; done)
                           | (rw [if_neg h50, if_pos h82, q1 k]
                              first | exact if_pos h86 | exact if_neg h86)
                           | (rw [if_neg h50, if_neg h82, q2 k]
                              first | exact if_pos h104 | exact if_neg h104))
                  · skip
                    refine q_aload_n (n := 108) dX8_lost_107 rfl rfl ?_
                    refine q_getJE (s45 0 19) (kI := 19) (n := 111) dX8_lost_108 rfl fX8_233 mi0 rfl rfl rfl ?_
                    refine q_go (t := 118) dX8_lost_111 (by decide) ?_
                    refine q_lret dX8_lost_118 rfl ?_
                    refine ⟨congrArg some (congrArg Sum.inr (congrArg Sum.inl (Eq.symm ?_))), _, rfl⟩
                    unfold fLost
                    first
                      | (refine if_neg (fun z => ?_)
                         first
                           | exact hv z.1.1
                           | exact hb z.1.2
                           | omega)
                      | (rw [if_pos ⟨⟨hv, hb⟩, by omega, by omega⟩]
                         first
                           | (rw [if_pos h50, if_pos h54]
                              unfold stren
                              rw [d1, d2]
                              done)
                           | (rw [if_pos h50, if_neg h54]; done)
                           | (rw [if_neg h50, if_pos h82, q1 k]
                              first | exact if_pos h86 | exact if_neg h86)
                           | (rw [if_neg h50, if_neg h82, q2 k]
                              first | exact if_pos h104 | exact if_neg h104))
                · skip
                  refine q_iload_n (n := 86) dX8_lost_85 rfl rfl ?_
                  refine q_if_ne (n := 89) (t := 96) dX8_lost_86 rfl (by decide) (fun h86 => ?_) (fun h86 => ?_)
                  · skip
                    refine q_aload_n (n := 97) dX8_lost_96 rfl rfl ?_
                    refine q_getJE (s45 0 18) (kI := 18) (n := 100) dX8_lost_97 rfl fX8_224 mi0 rfl rfl rfl ?_
                    refine q_go (t := 118) dX8_lost_100 (by decide) ?_
                    refine q_lret dX8_lost_118 rfl ?_
                    refine ⟨congrArg some (congrArg Sum.inr (congrArg Sum.inl (Eq.symm ?_))), _, rfl⟩
                    unfold fLost
                    first
                      | (refine if_neg (fun z => ?_)
                         first
                           | exact hv z.1.1
                           | exact hb z.1.2
                           | omega)
                      | (rw [if_pos ⟨⟨hv, hb⟩, by omega, by omega⟩]
                         first
                           | (rw [if_pos h50, if_pos h54]
                              unfold stren
                              rw [d1, d2]
                              done)
                           | (rw [if_pos h50, if_neg h54]; done)
                           | (rw [if_neg h50, if_pos h82, q1 k]
                              first | exact if_pos h86 | exact if_neg h86)
                           | (rw [if_neg h50, if_neg h82, q2 k]
                              first | exact if_pos h104 | exact if_neg h104))
                  · skip
                    refine q_aload_n (n := 90) dX8_lost_89 rfl rfl ?_
                    refine q_getJE (s45 0 17) (kI := 17) (n := 93) dX8_lost_90 rfl fX8_227 mi0 rfl rfl rfl ?_
                    refine q_go (t := 118) dX8_lost_93 (by decide) ?_
                    refine q_lret dX8_lost_118 rfl ?_
                    refine ⟨congrArg some (congrArg Sum.inr (congrArg Sum.inl (Eq.symm ?_))), _, rfl⟩
                    unfold fLost
                    first
                      | (refine if_neg (fun z => ?_)
                         first
                           | exact hv z.1.1
                           | exact hb z.1.2
                           | omega)
                      | (rw [if_pos ⟨⟨hv, hb⟩, by omega, by omega⟩]
                         first
                           | (rw [if_pos h50, if_pos h54]
                              unfold stren
                              rw [d1, d2]
                              done)
                           | (rw [if_pos h50, if_neg h54]; done)
                           | (rw [if_neg h50, if_pos h82, q1 k]
                              first | exact if_pos h86 | exact if_neg h86)
                           | (rw [if_neg h50, if_neg h82, q2 k]
                              first | exact if_pos h104 | exact if_neg h104))
              · skip
                refine q_iload_n (n := 54) dX8_lost_53 rfl rfl ?_
                refine q_if_ne (n := 57) (t := 79) dX8_lost_54 rfl (by decide) (fun h54 => ?_) (fun h54 => ?_)
                · skip
                  refine q_lconst (x := 1) (n := 80) dX8_lost_79 rfl (k := ?_)
                  refine q_lret dX8_lost_80 rfl ?_
                  refine ⟨congrArg some (congrArg Sum.inr (congrArg Sum.inl (Eq.symm ?_))), _, rfl⟩
                  unfold fLost
                  first
                    | (refine if_neg (fun z => ?_)
                       first
                         | exact hv z.1.1
                         | exact hb z.1.2
                         | omega)
                    | (rw [if_pos ⟨⟨hv, hb⟩, by omega, by omega⟩]
                       first
                         | (rw [if_pos h50, if_pos h54]
                            unfold stren
                            rw [d1, d2]
                            done)
                         | (rw [if_pos h50, if_neg h54]; done)
                         | (rw [if_neg h50, if_pos h82, q1 k]
                            first | exact if_pos h86 | exact if_neg h86)
                         | (rw [if_neg h50, if_neg h82, q2 k]
                            first | exact if_pos h104 | exact if_neg h104))
                · skip
                  refine q_aload_n (n := 58) dX8_lost_57 rfl rfl ?_
                  refine q_getJE (s45 0 17) (kI := 17) (n := 61) dX8_lost_58 rfl fX8_227 mi0 rfl rfl rfl ?_
                  refine q_aload_n (n := 62) dX8_lost_61 rfl rfl ?_
                  refine q_getJE (s45 0 18) (kI := 18) (n := 65) dX8_lost_62 rfl fX8_224 mi0 rfl rfl rfl ?_
                  refine q_aload_n (n := 66) dX8_lost_65 rfl rfl ?_
                  refine q_getJE (s45 0 19) (kI := 19) (n := 69) dX8_lost_66 rfl fX8_233 mi0 rfl rfl rfl ?_
                  refine q_aload_n (n := 70) dX8_lost_69 rfl rfl ?_
                  refine q_getJE (s45 0 20) (kI := 20) (n := 73) dX8_lost_70 rfl fX8_230 mi0 rfl rfl rfl ?_
                  refine q_c4D (n := 76) dX8_lost_73 rfl (zX8_strength _ _ _ _ _ _ hrp.1.1 hrp.2.1 (by rw [d1]; exact d3.1) (by rw [d2]; exact d3.2)) vX8_strength lX8_247 rfl rfl ?_
                  refine q_go (t := 80) dX8_lost_76 (by decide) ?_
                  refine q_lret dX8_lost_80 rfl ?_
                  refine ⟨congrArg some (congrArg Sum.inr (congrArg Sum.inl (Eq.symm ?_))), _, rfl⟩
                  unfold fLost
                  first
                    | (refine if_neg (fun z => ?_)
                       first
                         | exact hv z.1.1
                         | exact hb z.1.2
                         | omega)
                    | (rw [if_pos ⟨⟨hv, hb⟩, by omega, by omega⟩]
                       first
                         | (rw [if_pos h50, if_pos h54]
                            unfold stren
                            rw [d1, d2]
                            done)
                         | (rw [if_pos h50, if_neg h54]; done)
                         | (rw [if_neg h50, if_pos h82, q1 k]
                            first | exact if_pos h86 | exact if_neg h86)
                         | (rw [if_neg h50, if_neg h82, q2 k]
                            first | exact if_pos h104 | exact if_neg h104))
          · have hb := q_b0.mp h35
            refine q_ldc2 (x := -9223372036854775808) (n := 41) dX8_lost_38 rfl kX8_190 (k := ?_)
            refine q_lret dX8_lost_41 rfl ?_
            refine ⟨congrArg some (congrArg Sum.inr (congrArg Sum.inl (Eq.symm ?_))), _, rfl⟩
            unfold fLost
            first
              | (refine if_neg (fun z => ?_)
                 first
                   | exact hv z.1.1
                   | exact hb z.1.2
                   | omega)
              | (rw [if_pos ⟨⟨hv, hb⟩, by omega, by omega⟩]
                 first
                   | (rw [if_pos h50, if_pos h54]
                      unfold stren
                      rw [d1, d2]
                      done)
                   | (rw [if_pos h50, if_neg h54]; done)
                   | (rw [if_neg h50, if_pos h82, q1 k]
                      first | exact if_pos h86 | exact if_neg h86)
                   | (rw [if_neg h50, if_neg h82, q2 k]
                      first | exact if_pos h104 | exact if_neg h104))
set_option maxRecDepth 100000 in
theorem zX8_even (v : Int) (σ s : q_S) (hI : IM σ) : q_Ct mX8_even shM [.inr (.inr 0), .inl v] (ovM σ s) (fun r σ' => r = some (.inl (fEven (σ 1 0) (σ 1 1) (σ 1 2) (pM (σ 1) 2) (pM (σ 1) 4) (pM (σ 1) 5) (pM (σ 1) 6) (pM (σ 1) 7) v)) ∧ ∃ s', σ' = ovM σ s') := by
  refine q_ct 0 (by decide) rfl rfl ?_
  show q_WP mX8_even shM 0 [some (.inr (.inr 0)), some (.inl v)] [] (ovM σ s) _
  have hn := hI.nt
  have hvv := hI.nv
  refine q_aload_n (n := 1) dX8_even_0 rfl rfl ?_
  refine q_iload_n (n := 2) dX8_even_1 rfl rfl ?_
  refine q_v1D (n := 5) dX8_even_2 rfl (zX8_isVertex _ σ _ (by omega)) vX8_isVertex lX8_192 rfl rfl mi0 rfl ?_
  refine q_if_ne (n := 8) (t := 10) dX8_even_5 rfl (by decide) (fun h5 => ?_) (fun h5 => ?_)
  · have hv := q_b1.mp h5
    have hvt := hI.tie hv
    have hmc := mem_C hn hvt.2.2
    refine q_aload_n (n := 11) dX8_even_10 rfl rfl ?_
    refine q_iload_n (n := 12) dX8_even_11 rfl rfl ?_
    refine q_v1 (n := 15) dX8_even_12 rfl (zX8_isBalanced v σ _ hI hv) vX8_isBalanced lX8_240 rfl rfl mi0 rfl (fun v12 σ12 h12 => ?_)
    obtain ⟨rfl, s12, rfl⟩ := h12
    · skip
      refine q_if_ne (n := 18) (t := 21) dX8_even_15 rfl (by decide) (fun h15 => ?_) (fun h15 => ?_)
      · have hb := q_b1.mp h15
        have hj := fun wo => lsb_ok (wo := wo) hn hvt.2.2 hI.fq hvt.1 hvt.2.1 (fun t a b => hI.pt ⟨a, b⟩) hb
        have hj1 := hj (-1)
        refine q_aload_n (n := 22) dX8_even_21 rfl rfl ?_
        refine q_iload_n (n := 23) dX8_even_22 rfl rfl ?_
        refine q_iconst (n := 24) dX8_even_23 rfl (k := ?_)
        refine q_v2W (n := 27) dX8_even_24 rfl (zX8_tellsLost v (-1) σ _ hI hv hb) vX8_tellsLost lX8_243 rfl rfl mi0 rfl (fun σ24 h24 => ?_)
        obtain ⟨s24, rfl, hrp⟩ := h24
        · skip
          refine q_aload_n (n := 28) dX8_even_27 rfl rfl ?_
          refine q_v0D (n := 31) dX8_even_28 rfl (zX8_isNothing σ s24 _ _ (red_sg hrp.1.1 hj1.1.1 hrp.1.2.1 hrp.1.2.2).1 (red_sg hrp.2.1 hj1.1.1 hrp.2.2.1 hrp.2.2.2).1) vX8_isNothing lX8_251 rfl rfl mi0 rfl ?_
          refine q_if_eq (n := 34) (t := 38) dX8_even_31 rfl (by decide) (fun h31 => ?_) (fun h31 => ?_)
          · have h31 := q_b0.mp h31
            refine q_iconst (n := 39) dX8_even_38 rfl (k := ?_)
            refine q_iret dX8_even_39 rfl (fun _ => rfl) ?_
            refine ⟨congrArg some (congrArg Sum.inl (Eq.symm ?_)), _, rfl⟩
            unfold fEven
            first
              | exact if_pos hv
              | (rw [if_neg (fun z => z hv), if_pos hb]; done)
              | (rw [if_neg (fun z => z hv), if_neg (fun z => z hb)]; first | exact if_pos h31 | exact if_neg h31)
          · have h31 := q_b1.mp h31
            refine q_iconst (n := 35) dX8_even_34 rfl (k := ?_)
            refine q_go (t := 39) dX8_even_35 (by decide) ?_
            refine q_iret dX8_even_39 rfl (fun _ => rfl) ?_
            refine ⟨congrArg some (congrArg Sum.inl (Eq.symm ?_)), _, rfl⟩
            unfold fEven
            first
              | exact if_pos hv
              | (rw [if_neg (fun z => z hv), if_pos hb]; done)
              | (rw [if_neg (fun z => z hv), if_neg (fun z => z hb)]; first | exact if_pos h31 | exact if_neg h31)
      · have hb := q_b0.mp h15
        refine q_bipush (n := 20) dX8_even_18 rfl (k := ?_)
        refine q_iret dX8_even_20 rfl (fun _ => rfl) ?_
        refine ⟨congrArg some (congrArg Sum.inl (Eq.symm ?_)), _, rfl⟩
        unfold fEven
        first
          | exact if_pos hv
          | (rw [if_neg (fun z => z hv), if_pos hb]; done)
          | (rw [if_neg (fun z => z hv), if_neg (fun z => z hb)]; first | exact if_pos h31 | exact if_neg h31)
  · have hv := q_b0.mp h5
    refine q_iconst (n := 9) dX8_even_8 rfl (k := ?_)
    refine q_iret dX8_even_9 rfl (fun _ => rfl) ?_
    refine ⟨congrArg some (congrArg Sum.inl (Eq.symm ?_)), _, rfl⟩
    unfold fEven
    first
      | exact if_pos hv
      | (rw [if_neg (fun z => z hv), if_pos hb]; done)
      | (rw [if_neg (fun z => z hv), if_neg (fun z => z hb)]; first | exact if_pos h31 | exact if_neg h31)
set_option maxRecDepth 100000 in
theorem lpX8_sp (σ : q_S) (v : Int) (hI : IM σ) (hv : 0 ≤ v ∧ v < σ 1 2) (hb : balb (pM (σ 1) 2) (σ 1 1) (pM (σ 1) 6 v) (pM (σ 1) 7 v) = true) : ∀ (n : Nat) (i : Int) (s : q_S), (n : Int) + i = σ 1 1 → 0 ≤ i → q_WP mX8_spoils shM 23 [some (.inr (.inr 0)), some (.inl v), some (.inl i)] [] (ovM σ s) (fun r σ' => r = some (.inl (spL (pM (σ 1) 2) (σ 1 0) (σ 1 1) (pM (σ 1) 4 v) (pM (σ 1) 5 v) (pM (σ 1) 6 v) (pM (σ 1) 7 v) n i)) ∧ ∃ s', σ' = ovM σ s') := by
  have hn := hI.nt
  have hvv := hI.nv
  have hvt := hI.tie hv
  have hmc := mem_C hn hvt.2.2
  have hj := fun wo => lsb_ok (wo := wo) hn hvt.2.2 hI.fq hvt.1 hvt.2.1 (fun t a b => hI.pt ⟨a, b⟩) hb
  intro n
  induction n with
  | zero =>
    intro i s hi h0
    refine q_iload_n (n := 24) dX8_spoils_23 rfl rfl ?_
    refine q_aload_n (n := 25) dX8_spoils_24 rfl rfl ?_
    refine q_getR (n := 28) dX8_spoils_25 rfl fX8_23 mi0 rfl ?_
    refine q_iconst (n := 29) dX8_spoils_28 rfl (k := ?_)
    refine q_ialoadF (σ 1) (n := 30) dX8_spoils_29 rfl mi1 ⟨by omega, by omega⟩ rfl ?_
    refine q_icmp_ge (n := 33) (t := 70) dX8_spoils_30 rfl (by decide) (fun h30 => ?_) (fun h30 => ?_)
    · skip
      refine q_bipush (n := 72) dX8_spoils_70 rfl (k := ?_)
      refine q_iret dX8_spoils_72 rfl (fun _ => rfl) ?_
      exact ⟨rfl, _, rfl⟩
    · exact absurd h30 (by omega)
  | succ n ih =>
    intro i s hi h0
    have hj1 := hj i
    refine q_iload_n (n := 24) dX8_spoils_23 rfl rfl ?_
    refine q_aload_n (n := 25) dX8_spoils_24 rfl rfl ?_
    refine q_getR (n := 28) dX8_spoils_25 rfl fX8_23 mi0 rfl ?_
    refine q_iconst (n := 29) dX8_spoils_28 rfl (k := ?_)
    refine q_ialoadF (σ 1) (n := 30) dX8_spoils_29 rfl mi1 ⟨by omega, by omega⟩ rfl ?_
    refine q_icmp_ge (n := 33) (t := 70) dX8_spoils_30 rfl (by decide) (fun h30 => ?_) (fun h30 => ?_)
    · exact absurd h30 (by omega)
    · skip
      refine q_aload_n (n := 34) dX8_spoils_33 rfl rfl ?_
      refine q_iload_n (n := 35) dX8_spoils_34 rfl rfl ?_
      refine q_iconst (n := 36) dX8_spoils_35 rfl (k := ?_)
      refine q_v2D (n := 39) dX8_spoils_36 rfl (zX8_vP3 _ σ _ ⟨by omega, by omega⟩) vX8_vertexAt lX8_185 rfl rfl mi0 rfl ?_
      refine q_iload_n (n := 40) dX8_spoils_39 rfl rfl ?_
      refine q_c2D (n := 43) dX8_spoils_40 rfl (zX8_has _ _ _ _) vX8_has lX8_170 rfl rfl ?_
      refine q_if_ne (n := 46) (t := 49) dX8_spoils_43 rfl (by decide) (fun h43 => ?_) (fun h43 => ?_)
      · have h43 := q_b1.mp h43
        refine q_aload_n (n := 50) dX8_spoils_49 rfl rfl ?_
        refine q_iload_n (n := 51) dX8_spoils_50 rfl rfl ?_
        refine q_iload_n (n := 52) dX8_spoils_51 rfl rfl ?_
        refine q_v2W (n := 55) dX8_spoils_52 rfl (zX8_tellsLost v i σ _ hI hv hb) vX8_tellsLost lX8_243 rfl rfl mi0 rfl (fun σ52 h52 => ?_)
        obtain ⟨s52, rfl, hrp⟩ := h52
        · skip
          refine q_aload_n (n := 56) dX8_spoils_55 rfl rfl ?_
          refine q_v0D (n := 59) dX8_spoils_56 rfl (zX8_isNothing σ s52 _ _ (red_sg hrp.1.1 hj1.1.1 hrp.1.2.1 hrp.1.2.2).1 (red_sg hrp.2.1 hj1.1.1 hrp.2.2.1 hrp.2.2.2).1) vX8_isNothing lX8_251 rfl rfl mi0 rfl ?_
          refine q_if_eq (n := 62) (t := 64) dX8_spoils_59 rfl (by decide) (fun h59 => ?_) (fun h59 => ?_)
          · have h59 := q_b0.mp h59
            refine q_iinc (n := 67) dX8_spoils_64 rfl (Nat.le_of_ble_eq_true rfl) rfl (q_nwid ⟨by omega, by omega⟩) (q_s1_s (q_s1_1 rfl)) ?_
            refine q_go (t := 23) dX8_spoils_67 (by decide) ?_
            rw [spL]
            first
              | (rw [if_pos h43, if_neg h59]; exact ih _ _ (by omega) (by omega))
              | (rw [if_neg h43]; exact ih _ _ (by omega) (by omega))
          · have h59 := q_b1.mp h59
            refine q_iload_n (n := 63) dX8_spoils_62 rfl rfl ?_
            refine q_iret dX8_spoils_63 rfl (fun _ => rfl) ?_
            exact ⟨by rw [spL, if_pos h43, if_pos h59], _, rfl⟩
      · have h43 := q_b0.mp h43
        refine q_go (t := 64) dX8_spoils_46 (by decide) ?_
        refine q_iinc (n := 67) dX8_spoils_64 rfl (Nat.le_of_ble_eq_true rfl) rfl (q_nwid ⟨by omega, by omega⟩) (q_s1_s (q_s1_1 rfl)) ?_
        refine q_go (t := 23) dX8_spoils_67 (by decide) ?_
        rw [spL]
        first
          | (rw [if_pos h43, if_neg h59]; exact ih _ _ (by omega) (by omega))
          | (rw [if_neg h43]; exact ih _ _ (by omega) (by omega))
set_option maxRecDepth 100000 in
theorem zX8_spoils (v : Int) (σ s : q_S) (hI : IM σ) : q_Ct mX8_spoils shM [.inr (.inr 0), .inl v] (ovM σ s) (fun r σ' => r = some (.inl (fSpoils (σ 1 0) (σ 1 1) (σ 1 2) (pM (σ 1) 2) (pM (σ 1) 4) (pM (σ 1) 5) (pM (σ 1) 6) (pM (σ 1) 7) v)) ∧ ∃ s', σ' = ovM σ s') := by
  refine q_ct 1 (by decide) rfl rfl ?_
  show q_WP mX8_spoils shM 0 [some (.inr (.inr 0)), some (.inl v), none] [] (ovM σ s) _
  have hn := hI.nt
  have hvv := hI.nv
  refine q_aload_n (n := 1) dX8_spoils_0 rfl rfl ?_
  refine q_iload_n (n := 2) dX8_spoils_1 rfl rfl ?_
  refine q_v1D (n := 5) dX8_spoils_2 rfl (zX8_isVertex _ σ _ (by omega)) vX8_isVertex lX8_192 rfl rfl mi0 rfl ?_
  refine q_if_ne (n := 8) (t := 10) dX8_spoils_5 rfl (by decide) (fun h5 => ?_) (fun h5 => ?_)
  · have hv := q_b1.mp h5
    refine q_aload_n (n := 11) dX8_spoils_10 rfl rfl ?_
    refine q_iload_n (n := 12) dX8_spoils_11 rfl rfl ?_
    refine q_v1 (n := 15) dX8_spoils_12 rfl (zX8_isBalanced v σ _ hI hv) vX8_isBalanced lX8_240 rfl rfl mi0 rfl (fun v12 σ12 h12 => ?_)
    obtain ⟨rfl, s12, rfl⟩ := h12
    · skip
      refine q_if_ne (n := 18) (t := 21) dX8_spoils_15 rfl (by decide) (fun h15 => ?_) (fun h15 => ?_)
      · have hb := q_b1.mp h15
        refine q_iconst (n := 22) dX8_spoils_21 rfl (k := ?_)
        refine q_istore_n (n := 23) dX8_spoils_22 rfl (Nat.le_of_ble_eq_true rfl) (q_s1_s (q_s1_1 rfl)) ?_
        unfold fSpoils
        rw [if_neg (fun z => z hv), if_neg (fun z => z hb)]
        exact lpX8_sp σ v hI hv hb (σ 1 1).toNat 0 _ (by omega) (by decide)
      · have hb := q_b0.mp h15
        refine q_bipush (n := 20) dX8_spoils_18 rfl (k := ?_)
        refine q_iret dX8_spoils_20 rfl (fun _ => rfl) ?_
        refine ⟨congrArg some (congrArg Sum.inl (Eq.symm ?_)), _, rfl⟩
        unfold fSpoils
        first
          | exact if_pos hv
          | (rw [if_neg (fun z => z hv), if_pos hb]; done)
  · have hv := q_b0.mp h5
    refine q_iconst (n := 9) dX8_spoils_8 rfl (k := ?_)
    refine q_iret dX8_spoils_9 rfl (fun _ => rfl) ?_
    refine ⟨congrArg some (congrArg Sum.inl (Eq.symm ?_)), _, rfl⟩
    unfold fSpoils
    first
      | exact if_pos hv
      | (rw [if_neg (fun z => z hv), if_pos hb]; done)
