theorem ir_st {σ : q_S} {g : Int → Int} {l k v : Int} (h : 0 ≤ k ∧ k < 24) : q_up (q_row σ 19 (fun x => if 24 * l ≤ x ∧ x < 24 * l + 24 then g (x - 24 * l) else σ 19 x)) 19 (24 * l + k) v = q_row σ 19 (fun x => if 24 * l ≤ x ∧ x < 24 * l + 24 then (fun j => if j = k then v else g j) (x - 24 * l) else σ 19 x) := by
  rw [q_row_up]
  congr 1
  funext x
  dsimp only
  by_cases e : x = 24 * l + k
  · rw [if_pos e, if_pos (by omega), if_pos (by omega)]
  · rw [if_neg e]
    by_cases e2 : 24 * l ≤ x ∧ x < 24 * l + 24
    · rw [if_pos e2, if_pos e2, if_neg (by omega)]
    · rw [if_neg e2, if_neg e2]
theorem ir_0 {σ : q_S} {l : Int} : q_row σ 19 (fun x => if 24 * l ≤ x ∧ x < 24 * l + 24 then (fun j => σ 19 (24 * l + j)) (x - 24 * l) else σ 19 x) = σ := by
  have e : (fun x => if 24 * l ≤ x ∧ x < 24 * l + 24 then (fun j => σ 19 (24 * l + j)) (x - 24 * l) else σ 19 x) = σ 19 := by
    funext x
    dsimp only
    by_cases e2 : 24 * l ≤ x ∧ x < 24 * l + 24
    · rw [if_pos e2]
      congr 1
      omega
    · rw [if_neg e2]
  rw [e, q_row_0]
set_option maxRecDepth 100000 in
theorem lpX8_in (σ s : q_S) (v l p K : Int) (tn : Int → Int) (hl : 0 ≤ l ∧ l < 3) (hp : 0 ≤ p) (hsz : -1 ≤ σ 18 l ∧ σ 18 l ≤ 24) (hK : 0 ≤ K ∧ K ≤ 4) (h16 : s 0 16 = K) (h20 : ∀ j, 0 ≤ j → j < 4 * K → s 20 j = tn j) : ∀ (n : Nat) (i : Int) (g : Int → Int), (n : Int) + i = 4 * K → 0 ≤ i → q_WP mX8_into shM 55 [some (.inr (.inr 0)), some (.inl v), some (.inl l), some (.inl p), some (.inl i)] [] (ovM (q_row σ 19 (fun x => if 24 * l ≤ x ∧ x < 24 * l + 24 then g (x - 24 * l) else σ 19 x)) s) (fun r σ' => r = some (.inl (inL tn p (σ 18 l) n i g).1) ∧ σ' = ovM (q_row σ 19 (fun x => if 24 * l ≤ x ∧ x < 24 * l + 24 then (inL tn p (σ 18 l) n i g).2 (x - 24 * l) else σ 19 x)) s) := by
  intro n
  induction n with
  | zero =>
    intro i g hi h0
    refine q_iload (n := 57) dX8_into_55 rfl rfl ?_
    refine q_iconst (n := 58) dX8_into_57 rfl (k := ?_)
    refine q_aload_n (n := 59) dX8_into_58 rfl rfl ?_
    refine q_getIE (K) (kI := 16) (n := 62) (by decide) dX8_into_59 rfl fX8_218 mi0 rfl rfl h16 ?_
    refine q_imulS (n := 63) dX8_into_62 rfl ⟨by omega, by omega⟩ ?_
    refine q_icmp_ge (n := 66) (t := 106) dX8_into_63 rfl (by decide) (fun h63 => ?_) (fun h63 => ?_)
    · skip
      refine q_iload (n := 108) dX8_into_106 rfl rfl ?_
      refine q_iret dX8_into_108 rfl (fun _ => rfl) ?_
      exact ⟨rfl, rfl⟩
    · exact absurd h63 (by omega)
  | succ n ih =>
    intro i g hi h0
    rw [inL]
    refine q_iload (n := 57) dX8_into_55 rfl rfl ?_
    refine q_iconst (n := 58) dX8_into_57 rfl (k := ?_)
    refine q_aload_n (n := 59) dX8_into_58 rfl rfl ?_
    refine q_getIE (K) (kI := 16) (n := 62) (by decide) dX8_into_59 rfl fX8_218 mi0 rfl rfl h16 ?_
    refine q_imulS (n := 63) dX8_into_62 rfl ⟨by omega, by omega⟩ ?_
    refine q_icmp_ge (n := 66) (t := 106) dX8_into_63 rfl (by decide) (fun h63 => ?_) (fun h63 => ?_)
    · exact absurd h63 (by omega)
    · skip
      refine q_iload_n (n := 67) dX8_into_66 rfl rfl ?_
      refine q_aload_n (n := 68) dX8_into_67 rfl rfl ?_
      refine q_getR (n := 71) dX8_into_68 rfl fX8_75 mi0 rfl ?_
      refine q_iload_n (n := 72) dX8_into_71 rfl rfl ?_
      refine q_ialoadE (σ 18 l) (n := 73) dX8_into_72 rfl mi18 ⟨by omega, by omega⟩ rfl ?_
      refine q_iload (n := 75) dX8_into_73 rfl rfl ?_
      refine q_isubS (n := 76) dX8_into_75 rfl ⟨by omega, by omega⟩ ?_
      refine q_icmp_ge (n := 79) (t := 106) dX8_into_76 rfl (by decide) (fun h76 => ?_) (fun h76 => ?_)
      · rw [if_neg (by omega)]
        refine q_iload (n := 108) dX8_into_106 rfl rfl ?_
        refine q_iret dX8_into_108 rfl (fun _ => rfl) ?_
        exact ⟨rfl, rfl⟩
      · rw [if_pos (by omega)]
        refine q_aload_n (n := 80) dX8_into_79 rfl rfl ?_
        refine q_getR (n := 83) dX8_into_80 rfl fX8_78 mi0 rfl ?_
        refine q_bipush (n := 85) dX8_into_83 rfl (k := ?_)
        refine q_iload_n (n := 86) dX8_into_85 rfl rfl ?_
        refine q_imulS (n := 87) dX8_into_86 rfl ⟨by omega, by omega⟩ ?_
        refine q_iload_n (n := 88) dX8_into_87 rfl rfl ?_
        refine q_iaddS (n := 89) dX8_into_88 rfl ⟨by omega, by omega⟩ ?_
        refine q_iload (n := 91) dX8_into_89 rfl rfl ?_
        refine q_iaddS (n := 92) dX8_into_91 rfl ⟨by omega, by omega⟩ ?_
        refine q_aload_n (n := 93) dX8_into_92 rfl rfl ?_
        refine q_getR (n := 96) dX8_into_93 rfl fX8_82 mi0 rfl ?_
        refine q_iload (n := 98) dX8_into_96 rfl rfl ?_
        refine q_laloadE (tn i) (n := 99) dX8_into_98 rfl mi20 ⟨by omega, by omega⟩ ((om_s rfl).trans (h20 i h0 (by omega))) ?_
        refine q_lastore (n := 100) dX8_into_99 rfl mi19 ⟨by omega, by omega⟩ ?_
        rw [om_upn rfl, Int.add_assoc, ir_st ⟨by omega, by omega⟩]
        refine q_iinc (n := 103) dX8_into_100 rfl (Nat.le_of_ble_eq_true rfl) rfl (q_nwid ⟨by omega, by omega⟩) (q_s1_s (q_s1_s (q_s1_s (q_s1_1 rfl)))) ?_
        refine q_go (t := 55) dX8_into_103 (by decide) ?_
        exact ih (i + 1) (fun j => if j = p + i then tn i else g j) (by omega) (by omega)
set_option maxRecDepth 100000 in
theorem zX8_into (v l p : Int) (σ s : q_S) (hI : IM σ) : q_Ct mX8_into shM [.inr (.inr 0), .inl v, .inl l, .inl p] (ovM σ s) (fun r σ' => ∃ z, r = some z ∧ (((¬ (0 ≤ v ∧ v < σ 1 2) ∨ ¬ (0 ≤ l ∧ l < 3)) ∧ z = .inl (-1) ∧ (∃ s', σ' = ovM σ s')) ∨ (((0 ≤ v ∧ v < σ 1 2) ∧ (0 ≤ l ∧ l < 3) ∧ σ 18 l < 0) ∧ z = .inl (-11) ∧ (∃ s', σ' = ovM σ s')) ∨ (((0 ≤ v ∧ v < σ 1 2) ∧ (0 ≤ l ∧ l < 3) ∧ ¬ σ 18 l < 0 ∧ p < 0) ∧ z = .inl (-13) ∧ (∃ s', σ' = ovM σ s')) ∨ (((0 ≤ v ∧ v < σ 1 2) ∧ (0 ≤ l ∧ l < 3) ∧ ¬ σ 18 l < 0 ∧ ¬ p < 0 ∧ ¬ balb (pM (σ 1) 2) (σ 1 1) (pM (σ 1) 6 v) (pM (σ 1) 7 v) = true) ∧ z = .inl (-2) ∧ (∃ s', σ' = ovM σ s')) ∨ (((0 ≤ v ∧ v < σ 1 2) ∧ (0 ≤ l ∧ l < 3) ∧ ¬ σ 18 l < 0 ∧ ¬ p < 0 ∧ balb (pM (σ 1) 2) (σ 1 1) (pM (σ 1) 6 v) (pM (σ 1) 7 v) = true) ∧ z = .inl (inL (tnF (pM (σ 1) 2) (σ 1 0) (pM (σ 1) 4 v) (pM (σ 1) 5 v) (mF (pM (σ 1) 6 v) (pM (σ 1) 7 v) (σ 1 1))) p (σ 18 l) (4 * mC (pM (σ 1) 6 v) (pM (σ 1) 7 v) (σ 1 1)).toNat 0 (fun j => σ 19 (24 * l + j))).1 ∧ ∃ s', σ' = ovM (q_row σ 19 (fun x => if 24 * l ≤ x ∧ x < 24 * l + 24 then (inL (tnF (pM (σ 1) 2) (σ 1 0) (pM (σ 1) 4 v) (pM (σ 1) 5 v) (mF (pM (σ 1) 6 v) (pM (σ 1) 7 v) (σ 1 1))) p (σ 18 l) (4 * mC (pM (σ 1) 6 v) (pM (σ 1) 7 v) (σ 1 1)).toNat 0 (fun j => σ 19 (24 * l + j))).2 (x - 24 * l) else σ 19 x)) s'))) := by
  refine q_ct 1 (by decide) rfl rfl ?_
  show q_WP mX8_into shM 0 [some (.inr (.inr 0)), some (.inl v), some (.inl l), some (.inl p), none] [] (ovM σ s) _
  have hsz := hI.2.2.2.2.2.2.2
  have hn := hI.nt
  have hvv := hI.nv
  refine q_aload_n (n := 1) dX8_into_0 rfl rfl ?_
  refine q_iload_n (n := 2) dX8_into_1 rfl rfl ?_
  refine q_v1D (n := 5) dX8_into_2 rfl (zX8_isVertex _ σ _ (by omega)) vX8_isVertex lX8_192 rfl rfl mi0 rfl ?_
  refine q_if_eq (n := 8) (t := 15) dX8_into_5 rfl (by decide) (fun h5 => ?_) (fun h5 => ?_)
  · have hv := q_b0.mp h5
    refine q_iconst (n := 16) dX8_into_15 rfl (k := ?_)
    refine q_iret dX8_into_16 rfl (fun _ => rfl) ?_
    first
      | exact ⟨_, rfl, Or.inl ⟨Or.inl hv, rfl, _, rfl⟩⟩
      | exact ⟨_, rfl, Or.inl ⟨Or.inr hl, rfl, _, rfl⟩⟩
  · have hv := q_b1.mp h5
    refine q_iload_n (n := 9) dX8_into_8 rfl rfl ?_
    refine q_c1D (n := 12) dX8_into_9 rfl (zX8_isList _ _ _) vX8_isList lX8_369 rfl rfl ?_
    refine q_if_ne (n := 15) (t := 17) dX8_into_12 rfl (by decide) (fun h12 => ?_) (fun h12 => ?_)
    · have hl := q_b1.mp h12
      have hs1 := hsz l hl.1 hl.2
      refine q_aload_n (n := 18) dX8_into_17 rfl rfl ?_
      refine q_getR (n := 21) dX8_into_18 rfl fX8_75 mi0 rfl ?_
      refine q_iload_n (n := 22) dX8_into_21 rfl rfl ?_
      refine q_ialoadF (σ 18) (n := 23) dX8_into_22 rfl mi18 ⟨by omega, by omega⟩ rfl ?_
      refine q_if_ge (n := 26) (t := 29) dX8_into_23 rfl (by decide) (fun h23 => ?_) (fun h23 => ?_)
      · skip
        refine q_iload_n (n := 30) dX8_into_29 rfl rfl ?_
        refine q_if_ge (n := 33) (t := 36) dX8_into_30 rfl (by decide) (fun h30 => ?_) (fun h30 => ?_)
        · skip
          refine q_aload_n (n := 37) dX8_into_36 rfl rfl ?_
          refine q_iload_n (n := 38) dX8_into_37 rfl rfl ?_
          refine q_v1 (n := 41) dX8_into_38 rfl (zX8_isBalanced v σ _ hI hv) vX8_isBalanced lX8_240 rfl rfl mi0 rfl (fun v38 σ38 h38 => ?_)
          obtain ⟨rfl, s38, rfl⟩ := h38
          · skip
            refine q_if_ne (n := 44) (t := 47) dX8_into_41 rfl (by decide) (fun h41 => ?_) (fun h41 => ?_)
            · have hb := q_b1.mp h41
              have hmc := mem_C hn (hI.tie hv).2.2
              refine q_aload_n (n := 48) dX8_into_47 rfl rfl ?_
              refine q_iload_n (n := 49) dX8_into_48 rfl rfl ?_
              refine q_v1W (n := 52) dX8_into_49 rfl (zX8_tellsPushes v σ _ hI hv hb) vX8_tellsPushes lX8_372 rfl rfl mi0 rfl (fun σ49 h49 => ?_)
              obtain ⟨s49, rfl, h16, h20⟩ := h49
              · skip
                refine q_iconst (n := 53) dX8_into_52 rfl (k := ?_)
                refine q_istore (n := 55) dX8_into_53 rfl (Nat.le_of_ble_eq_true rfl) (q_s1_s (q_s1_s (q_s1_s (q_s1_1 rfl)))) ?_
                refine q_cut _ _ (ovM (q_row σ 19 (fun x => if 24 * l ≤ x ∧ x < 24 * l + 24 then (fun j => σ 19 (24 * l + j)) (x - 24 * l) else σ 19 x)) s49) rfl rfl (congrArg (fun z => ovM z s49) ir_0.symm) ?_
                refine (lpX8_in σ s49 v l p (mC (pM (σ 1) 6 v) (pM (σ 1) 7 v) (σ 1 1)) (tnF (pM (σ 1) 2) (σ 1 0) (pM (σ 1) 4 v) (pM (σ 1) 5 v) (mF (pM (σ 1) 6 v) (pM (σ 1) 7 v) (σ 1 1))) hl (by omega) hs1 ⟨by omega, by omega⟩ h16 h20 (4 * mC (pM (σ 1) 6 v) (pM (σ 1) 7 v) (σ 1 1)).toNat 0 (fun j => σ 19 (24 * l + j)) (by omega) (by decide)).imp ?_
                rintro r σ2 ⟨h1, h2⟩
                exact ⟨_, h1, Or.inr (Or.inr (Or.inr (Or.inr ⟨⟨hv, hl, by omega, by omega, hb⟩, rfl, s49, h2⟩)))⟩
            · have hb := q_b0.mp h41
              refine q_bipush (n := 46) dX8_into_44 rfl (k := ?_)
              refine q_iret dX8_into_46 rfl (fun _ => rfl) ?_
              exact ⟨_, rfl, Or.inr (Or.inr (Or.inr (Or.inl ⟨⟨hv, hl, by omega, by omega, hb⟩, rfl, _, rfl⟩)))⟩
        · skip
          refine q_bipush (n := 35) dX8_into_33 rfl (k := ?_)
          refine q_iret dX8_into_35 rfl (fun _ => rfl) ?_
          exact ⟨_, rfl, Or.inr (Or.inr (Or.inl ⟨⟨hv, hl, by omega, by omega⟩, rfl, _, rfl⟩))⟩
      · skip
        refine q_bipush (n := 28) dX8_into_26 rfl (k := ?_)
        refine q_iret dX8_into_28 rfl (fun _ => rfl) ?_
        exact ⟨_, rfl, Or.inr (Or.inl ⟨⟨hv, hl, by omega⟩, rfl, _, rfl⟩)⟩
    · have hl := q_b0.mp h12
      refine q_iconst (n := 16) dX8_into_15 rfl (k := ?_)
      refine q_iret dX8_into_16 rfl (fun _ => rfl) ?_
      first
        | exact ⟨_, rfl, Or.inl ⟨Or.inl hv, rfl, _, rfl⟩⟩
        | exact ⟨_, rfl, Or.inl ⟨Or.inr hl, rfl, _, rfl⟩⟩
set_option maxRecDepth 100000 in
theorem lpX8_ju (σ s : q_S) (v l p K : Int) (tn : Int → Int) (hl : 0 ≤ l ∧ l < 3) (hp : 0 ≤ p) (hsz : -1 ≤ σ 18 l ∧ σ 18 l ≤ 24) (hK : 0 ≤ K ∧ K ≤ 4) (h16 : s 0 16 = K) (h20 : ∀ j, 0 ≤ j → j < 4 * K → s 20 j = tn j) : ∀ (n : Nat) (i : Int), (n : Int) + i = 4 * K → 0 ≤ i → q_WP mX8_judge shM 52 [some (.inr (.inr 0)), some (.inl v), some (.inl l), some (.inl p), some (.inl i)] [] (ovM σ s) (fun r σ' => r = some (.inl (jgL tn (fun j => σ 19 (24 * l + j)) p (σ 18 l) n i)) ∧ σ' = ovM σ s) := by
  intro n
  induction n with
  | zero =>
    intro i hi h0
    refine q_iload (n := 54) dX8_judge_52 rfl rfl ?_
    refine q_iconst (n := 55) dX8_judge_54 rfl (k := ?_)
    refine q_aload_n (n := 56) dX8_judge_55 rfl rfl ?_
    refine q_getIE (K) (kI := 16) (n := 59) (by decide) dX8_judge_56 rfl fX8_218 mi0 rfl rfl h16 ?_
    refine q_imulS (n := 60) dX8_judge_59 rfl ⟨by omega, by omega⟩ ?_
    refine q_icmp_ge (n := 63) (t := 120) dX8_judge_60 rfl (by decide) (fun h60 => ?_) (fun h60 => ?_)
    · skip
      refine q_bipush (n := 122) dX8_judge_120 rfl (k := ?_)
      refine q_iret dX8_judge_122 rfl (fun _ => rfl) ?_
      exact ⟨rfl, rfl⟩
    · exact absurd h60 (by omega)
  | succ n ih =>
    intro i hi h0
    have hd := dv4 (i := i) ⟨h0, by omega⟩
    rw [jgL]
    refine q_iload (n := 54) dX8_judge_52 rfl rfl ?_
    refine q_iconst (n := 55) dX8_judge_54 rfl (k := ?_)
    refine q_aload_n (n := 56) dX8_judge_55 rfl rfl ?_
    refine q_getIE (K) (kI := 16) (n := 59) (by decide) dX8_judge_56 rfl fX8_218 mi0 rfl rfl h16 ?_
    refine q_imulS (n := 60) dX8_judge_59 rfl ⟨by omega, by omega⟩ ?_
    refine q_icmp_ge (n := 63) (t := 120) dX8_judge_60 rfl (by decide) (fun h60 => ?_) (fun h60 => ?_)
    · exact absurd h60 (by omega)
    · skip
      refine q_iload_n (n := 64) dX8_judge_63 rfl rfl ?_
      refine q_aload_n (n := 65) dX8_judge_64 rfl rfl ?_
      refine q_getR (n := 68) dX8_judge_65 rfl fX8_75 mi0 rfl ?_
      refine q_iload_n (n := 69) dX8_judge_68 rfl rfl ?_
      refine q_ialoadF (σ 18) (n := 70) dX8_judge_69 rfl mi18 ⟨by omega, by omega⟩ rfl ?_
      refine q_iload (n := 72) dX8_judge_70 rfl rfl ?_
      refine q_isubS (n := 73) dX8_judge_72 rfl ⟨by omega, by omega⟩ ?_
      refine q_icmp_lt (n := 76) (t := 84) dX8_judge_73 rfl (by decide) (fun h73 => ?_) (fun h73 => ?_)
      · rw [if_neg (by omega)]
        refine q_aload_n (n := 85) dX8_judge_84 rfl rfl ?_
        refine q_getR (n := 88) dX8_judge_85 rfl fX8_78 mi0 rfl ?_
        refine q_bipush (n := 90) dX8_judge_88 rfl (k := ?_)
        refine q_iload_n (n := 91) dX8_judge_90 rfl rfl ?_
        refine q_imulS (n := 92) dX8_judge_91 rfl ⟨by omega, by omega⟩ ?_
        refine q_iload_n (n := 93) dX8_judge_92 rfl rfl ?_
        refine q_iaddS (n := 94) dX8_judge_93 rfl ⟨by omega, by omega⟩ ?_
        refine q_iload (n := 96) dX8_judge_94 rfl rfl ?_
        refine q_iaddS (n := 97) dX8_judge_96 rfl ⟨by omega, by omega⟩ ?_
        refine q_laloadF (σ 19) (n := 98) dX8_judge_97 rfl mi19 ⟨by omega, by omega⟩ rfl ?_
        refine q_aload_n (n := 99) dX8_judge_98 rfl rfl ?_
        refine q_getR (n := 102) dX8_judge_99 rfl fX8_82 mi0 rfl ?_
        refine q_iload (n := 104) dX8_judge_102 rfl rfl ?_
        refine q_laloadE (tn i) (n := 105) dX8_judge_104 rfl mi20 ⟨by omega, by omega⟩ ((om_s rfl).trans (h20 i h0 (by omega))) ?_
        refine q_lcmp (n := 106) dX8_judge_105 rfl ?_
        refine q_if_eq (n := 109) (t := 114) dX8_judge_106 rfl (by decide) (fun h106 => ?_) (fun h106 => ?_)
        · have h106 : σ 19 (24 * l + (p + i)) = tn i := by
            rw [← Int.add_assoc]
            exact q_keqt.mp h106
          refine q_iinc (n := 117) dX8_judge_114 rfl (Nat.le_of_ble_eq_true rfl) rfl (q_nwid ⟨by omega, by omega⟩) (q_s1_s (q_s1_s (q_s1_s (q_s1_1 rfl)))) ?_
          refine q_go (t := 52) dX8_judge_117 (by decide) ?_
          rw [if_neg (fun z => z h106)]
          exact ih (i + 1) (by omega) (by omega)
        · have h106 : ¬ σ 19 (24 * l + (p + i)) = tn i := by
            rw [← Int.add_assoc]
            exact q_keqf.mp h106
          refine q_iload (n := 111) dX8_judge_109 rfl rfl ?_
          refine q_iconst (n := 112) dX8_judge_111 rfl (k := ?_)
          refine q_idiv (n := 113) dX8_judge_112 rfl (by omega) ?_
          refine q_topI (i / 4) hd ?_
          refine q_iret dX8_judge_113 rfl (fun _ => rfl) ?_
          first
            | exact ⟨rfl, rfl⟩
            | (rw [if_pos h106]
               exact ⟨rfl, rfl⟩)
      · rw [if_pos (by omega)]
        refine q_bipush (n := 78) dX8_judge_76 rfl (k := ?_)
        refine q_iload (n := 80) dX8_judge_78 rfl rfl ?_
        refine q_iconst (n := 81) dX8_judge_80 rfl (k := ?_)
        refine q_idiv (n := 82) dX8_judge_81 rfl (by omega) ?_
        refine q_topI (i / 4) hd ?_
        refine q_iaddS (n := 83) dX8_judge_82 rfl ⟨by omega, by omega⟩ ?_
        refine q_iret dX8_judge_83 rfl (fun _ => rfl) ?_
        first
          | exact ⟨rfl, rfl⟩
          | (rw [if_pos h106]
             exact ⟨rfl, rfl⟩)
set_option maxRecDepth 100000 in
theorem zX8_judge (v l p : Int) (σ s : q_S) (hI : IM σ) : q_Ct mX8_judge shM [.inr (.inr 0), .inl v, .inl l, .inl p] (ovM σ s) (fun r σ' => r = some (.inl (fJudge (σ 1 0) (σ 1 1) (σ 1 2) (pM (σ 1) 2) (pM (σ 1) 4) (pM (σ 1) 5) (pM (σ 1) 6) (pM (σ 1) 7) (σ 18) (fun l j => σ 19 (24 * l + j)) v l p)) ∧ ∃ s', σ' = ovM σ s') := by
  refine q_ct 1 (by decide) rfl rfl ?_
  show q_WP mX8_judge shM 0 [some (.inr (.inr 0)), some (.inl v), some (.inl l), some (.inl p), none] [] (ovM σ s) _
  have hsz := hI.2.2.2.2.2.2.2
  have hn := hI.nt
  have hvv := hI.nv
  refine q_aload_n (n := 1) dX8_judge_0 rfl rfl ?_
  refine q_iload_n (n := 2) dX8_judge_1 rfl rfl ?_
  refine q_v1D (n := 5) dX8_judge_2 rfl (zX8_isVertex _ σ _ (by omega)) vX8_isVertex lX8_192 rfl rfl mi0 rfl ?_
  refine q_if_eq (n := 8) (t := 19) dX8_judge_5 rfl (by decide) (fun h5 => ?_) (fun h5 => ?_)
  · have hv := q_b0.mp h5
    refine q_iconst (n := 20) dX8_judge_19 rfl (k := ?_)
    refine q_iret dX8_judge_20 rfl (fun _ => rfl) ?_
    refine ⟨congrArg some (congrArg Sum.inl (Eq.symm ?_)), _, rfl⟩
    unfold fJudge
    first
      | exact if_pos (Or.inl hv)
      | exact if_pos (Or.inr (Or.inl hl))
      | exact if_pos (by omega)
      | (rw [if_neg (by omega), if_pos (by omega)]; done)
      | (rw [if_neg (by omega), if_neg (by omega), if_pos hb]; done)
  · have hv := q_b1.mp h5
    refine q_iload_n (n := 9) dX8_judge_8 rfl rfl ?_
    refine q_c1D (n := 12) dX8_judge_9 rfl (zX8_isList _ _ _) vX8_isList lX8_369 rfl rfl ?_
    refine q_if_eq (n := 15) (t := 19) dX8_judge_12 rfl (by decide) (fun h12 => ?_) (fun h12 => ?_)
    · have hl := q_b0.mp h12
      refine q_iconst (n := 20) dX8_judge_19 rfl (k := ?_)
      refine q_iret dX8_judge_20 rfl (fun _ => rfl) ?_
      refine ⟨congrArg some (congrArg Sum.inl (Eq.symm ?_)), _, rfl⟩
      unfold fJudge
      first
        | exact if_pos (Or.inl hv)
        | exact if_pos (Or.inr (Or.inl hl))
        | exact if_pos (by omega)
        | (rw [if_neg (by omega), if_pos (by omega)]; done)
        | (rw [if_neg (by omega), if_neg (by omega), if_pos hb]; done)
    · have hl := q_b1.mp h12
      have hs1 := hsz l hl.1 hl.2
      refine q_iload_n (n := 16) dX8_judge_15 rfl rfl ?_
      refine q_if_ge (n := 19) (t := 21) dX8_judge_16 rfl (by decide) (fun h16 => ?_) (fun h16 => ?_)
      · skip
        refine q_aload_n (n := 22) dX8_judge_21 rfl rfl ?_
        refine q_getR (n := 25) dX8_judge_22 rfl fX8_75 mi0 rfl ?_
        refine q_iload_n (n := 26) dX8_judge_25 rfl rfl ?_
        refine q_ialoadF (σ 18) (n := 27) dX8_judge_26 rfl mi18 ⟨by omega, by omega⟩ rfl ?_
        refine q_if_ge (n := 30) (t := 33) dX8_judge_27 rfl (by decide) (fun h27 => ?_) (fun h27 => ?_)
        · skip
          refine q_aload_n (n := 34) dX8_judge_33 rfl rfl ?_
          refine q_iload_n (n := 35) dX8_judge_34 rfl rfl ?_
          refine q_v1 (n := 38) dX8_judge_35 rfl (zX8_isBalanced v σ _ hI hv) vX8_isBalanced lX8_240 rfl rfl mi0 rfl (fun v35 σ35 h35 => ?_)
          obtain ⟨rfl, s35, rfl⟩ := h35
          · skip
            refine q_if_ne (n := 41) (t := 44) dX8_judge_38 rfl (by decide) (fun h38 => ?_) (fun h38 => ?_)
            · have hb := q_b1.mp h38
              have hmc := mem_C hn (hI.tie hv).2.2
              refine q_aload_n (n := 45) dX8_judge_44 rfl rfl ?_
              refine q_iload_n (n := 46) dX8_judge_45 rfl rfl ?_
              refine q_v1W (n := 49) dX8_judge_46 rfl (zX8_tellsPushes v σ _ hI hv hb) vX8_tellsPushes lX8_372 rfl rfl mi0 rfl (fun σ46 h46 => ?_)
              obtain ⟨s46, rfl, h16, h20⟩ := h46
              · skip
                refine q_iconst (n := 50) dX8_judge_49 rfl (k := ?_)
                refine q_istore (n := 52) dX8_judge_50 rfl (Nat.le_of_ble_eq_true rfl) (q_s1_s (q_s1_s (q_s1_s (q_s1_1 rfl)))) ?_
                refine (lpX8_ju σ s46 v l p (mC (pM (σ 1) 6 v) (pM (σ 1) 7 v) (σ 1 1)) (tnF (pM (σ 1) 2) (σ 1 0) (pM (σ 1) 4 v) (pM (σ 1) 5 v) (mF (pM (σ 1) 6 v) (pM (σ 1) 7 v) (σ 1 1))) hl (by omega) hs1 ⟨by omega, by omega⟩ h16 h20 (4 * mC (pM (σ 1) 6 v) (pM (σ 1) 7 v) (σ 1 1)).toNat 0 (by omega) (by decide)).imp ?_
                rintro r σ2 ⟨h1, h2⟩
                refine ⟨h1.trans (congrArg some (congrArg Sum.inl (Eq.symm ?_))), s46, h2⟩
                unfold fJudge
                rw [if_neg (by omega), if_neg (by omega), if_neg (fun z => z hb)]
            · have hb := q_b0.mp h38
              refine q_bipush (n := 43) dX8_judge_41 rfl (k := ?_)
              refine q_iret dX8_judge_43 rfl (fun _ => rfl) ?_
              refine ⟨congrArg some (congrArg Sum.inl (Eq.symm ?_)), _, rfl⟩
              unfold fJudge
              first
                | exact if_pos (Or.inl hv)
                | exact if_pos (Or.inr (Or.inl hl))
                | exact if_pos (by omega)
                | (rw [if_neg (by omega), if_pos (by omega)]; done)
                | (rw [if_neg (by omega), if_neg (by omega), if_pos hb]; done)
        · skip
          refine q_bipush (n := 32) dX8_judge_30 rfl (k := ?_)
          refine q_iret dX8_judge_32 rfl (fun _ => rfl) ?_
          refine ⟨congrArg some (congrArg Sum.inl (Eq.symm ?_)), _, rfl⟩
          unfold fJudge
          first
            | exact if_pos (Or.inl hv)
            | exact if_pos (Or.inr (Or.inl hl))
            | exact if_pos (by omega)
            | (rw [if_neg (by omega), if_pos (by omega)]; done)
            | (rw [if_neg (by omega), if_neg (by omega), if_pos hb]; done)
      · skip
        refine q_iconst (n := 20) dX8_judge_19 rfl (k := ?_)
        refine q_iret dX8_judge_20 rfl (fun _ => rfl) ?_
        refine ⟨congrArg some (congrArg Sum.inl (Eq.symm ?_)), _, rfl⟩
        unfold fJudge
        first
          | exact if_pos (Or.inl hv)
          | exact if_pos (Or.inr (Or.inl hl))
          | exact if_pos (by omega)
          | (rw [if_neg (by omega), if_pos (by omega)]; done)
          | (rw [if_neg (by omega), if_neg (by omega), if_pos hb]; done)
