set_option maxRecDepth 100000 in
theorem zX8_letterKind1 (σ s : q_S) (p : Int) (rd : Int → Int) (hI : IM σ) (hp : 0 ≤ p ∧ p ≤ 1000) : q_Ct mX8_letterKind shM [.inr (.inr 0)] (ovM σ (tm s p 1 rd)) (fun r σ' => r = some (.inl 0) ∧ σ' = (ovM σ (tm s p 1 rd))) := by
  refine q_ct 1 (by decide) rfl rfl ?_
  show q_WP mX8_letterKind shM 0 [some (.inr (.inr 0)), none] [] (ovM σ (tm s p 1 rd)) _
  refine q_iconst (n := 1) dX8_letterKind_0 rfl (k := ?_)
  refine q_istore_n (n := 2) dX8_letterKind_1 rfl (Nat.le_of_ble_eq_true rfl) (q_s1_1 rfl) ?_
  refine q_iload_n (n := 3) dX8_letterKind_2 rfl rfl ?_
  refine q_bipush (n := 5) dX8_letterKind_3 rfl (k := ?_)
  refine q_icmp_ge (n := 8) (t := 50) dX8_letterKind_5 rfl (by decide) (fun h5 => ?_) (fun h5 => ?_)
  · exact absurd h5 (by decide)
  · skip
    refine q_aload_n (n := 9) dX8_letterKind_8 rfl rfl ?_
    refine q_getIE (1) (kI := 30) (n := 12) (by decide) dX8_letterKind_9 rfl fX8_331 mi0 rfl rfl om_tw ?_
    refine q_if_ne (n := 15) (t := 50) dX8_letterKind_12 rfl (by decide) (fun h12 => ?_) (fun h12 => ?_)
    · skip
      refine q_aload_n (n := 51) dX8_letterKind_50 rfl rfl ?_
      refine q_iconst (n := 52) dX8_letterKind_51 rfl (k := ?_)
      refine q_putZ (kI := 30) (n := 55) dX8_letterKind_52 rfl pX8_331 mi0 rfl rfl ⟨by decide, by decide⟩ ?_
      rw [om_sw]
      refine q_iconst (n := 56) dX8_letterKind_55 rfl (k := ?_)
      refine q_iret dX8_letterKind_56 rfl (fun _ => rfl) ?_
      exact ⟨rfl, rfl⟩
    · exact absurd h12 (by decide)
set_option maxRecDepth 100000 in
theorem lpX8_lk (σ s : q_S) (p : Int) (rd : Int → Int) (hI : IM σ) (hp : 0 ≤ p ∧ p ≤ 1000) : ∀ (n : Nat) (i : Int), (n : Int) + i = 12 → 0 ≤ i → q_WP mX8_letterKind shM 2 [some (.inr (.inr 0)), some (.inl i)] [] (ovM σ (tm s p 0 rd)) (fun r σ' => ∃ z, r = some z ∧ ((0 ≤ ixL ((tT (tx σ)) p) n i ∧ z = .inl (ixL ((tT (tx σ)) p) n i) ∧ σ' = (ovM σ (tm s (p + 1) 0 rd))) ∨ (¬ 0 ≤ ixL ((tT (tx σ)) p) n i ∧ z = .inl 0 ∧ σ' = (ovM σ (tm s p 1 rd))))) := by
  intro n
  induction n with
  | zero =>
    intro i hi h0
    rw [ixL]
    refine q_iload_n (n := 3) dX8_letterKind_2 rfl rfl ?_
    refine q_bipush (n := 5) dX8_letterKind_3 rfl (k := ?_)
    refine q_icmp_ge (n := 8) (t := 50) dX8_letterKind_5 rfl (by decide) (fun h5 => ?_) (fun h5 => ?_)
    · skip
      refine q_aload_n (n := 51) dX8_letterKind_50 rfl rfl ?_
      refine q_iconst (n := 52) dX8_letterKind_51 rfl (k := ?_)
      refine q_putZ (kI := 30) (n := 55) dX8_letterKind_52 rfl pX8_331 mi0 rfl rfl ⟨by decide, by decide⟩ ?_
      rw [om_sw]
      refine q_iconst (n := 56) dX8_letterKind_55 rfl (k := ?_)
      refine q_iret dX8_letterKind_56 rfl (fun _ => rfl) ?_
      exact ⟨_, rfl, Or.inr ⟨by decide, rfl, rfl⟩⟩
    · exact absurd h5 (by omega)
  | succ n ih =>
    intro i hi h0
    have hl : σ 7 i = q_let.getD i.toNat 0 := (hI.2.2.1 i h0 (by omega)).2.2.2
    rw [ixL]
    refine q_iload_n (n := 3) dX8_letterKind_2 rfl rfl ?_
    refine q_bipush (n := 5) dX8_letterKind_3 rfl (k := ?_)
    refine q_icmp_ge (n := 8) (t := 50) dX8_letterKind_5 rfl (by decide) (fun h5 => ?_) (fun h5 => ?_)
    · exact absurd h5 (by omega)
    · skip
      refine q_aload_n (n := 9) dX8_letterKind_8 rfl rfl ?_
      refine q_getIE (0) (kI := 30) (n := 12) (by decide) dX8_letterKind_9 rfl fX8_331 mi0 rfl rfl om_tw ?_
      refine q_if_ne (n := 15) (t := 50) dX8_letterKind_12 rfl (by decide) (fun h12 => ?_) (fun h12 => ?_)
      · exact absurd h12 (by decide)
      · skip
        refine q_aload_n (n := 16) dX8_letterKind_15 rfl rfl ?_
        refine q_aload_n (n := 17) dX8_letterKind_16 rfl rfl ?_
        refine q_getIE (p) (kI := 29) (n := 20) (by decide) dX8_letterKind_17 rfl fX8_321 mi0 rfl rfl om_tp ?_
        refine q_v1D (n := 23) dX8_letterKind_20 rfl (zX8_byteAt _ σ _ hI (by omega)) vX8_byteAt lX8_324 rfl rfl mi0 rfl ?_
        refine q_aload_n (n := 24) dX8_letterKind_23 rfl rfl ?_
        refine q_getR (n := 27) dX8_letterKind_24 rfl fX8_42 mi0 rfl ?_
        refine q_iload_n (n := 28) dX8_letterKind_27 rfl rfl ?_
        refine q_ialoadF (σ 7) (n := 29) dX8_letterKind_28 rfl mi7 ⟨by omega, by omega⟩ rfl ?_
        refine q_icmp_ne (n := 32) (t := 44) dX8_letterKind_29 rfl (by decide) (fun h29 => ?_) (fun h29 => ?_)
        · have e : ¬ q_let.getD i.toNat 0 = (tT (tx σ)) p := fun z => h29 (z.symm.trans hl.symm)
          rw [if_neg e]
          refine q_iinc (n := 47) dX8_letterKind_44 rfl (Nat.le_of_ble_eq_true rfl) rfl (q_nwid ⟨by omega, by omega⟩) (q_s1_1 rfl) ?_
          refine q_go (t := 2) dX8_letterKind_47 (by decide) ?_
          exact ih (i + 1) (by omega) (by omega)
        · have e : q_let.getD i.toNat 0 = (tT (tx σ)) p := hl.symm.trans h29.symm
          rw [if_pos e]
          refine q_aload_n (n := 33) dX8_letterKind_32 rfl rfl ?_
          refine q_dup (n := 34) dX8_letterKind_33 rfl rfl ?_
          refine q_getIE (p) (kI := 29) (n := 37) (by decide) dX8_letterKind_34 rfl fX8_321 mi0 rfl rfl om_tp ?_
          refine q_iconst (n := 38) dX8_letterKind_37 rfl (k := ?_)
          refine q_iaddS (n := 39) dX8_letterKind_38 rfl ⟨by omega, by omega⟩ ?_
          refine q_putI (kI := 29) (n := 42) dX8_letterKind_39 rfl pX8_321 mi0 rfl rfl ?_
          rw [om_sp]
          refine q_iload_n (n := 43) dX8_letterKind_42 rfl rfl ?_
          refine q_iret dX8_letterKind_43 rfl (fun _ => rfl) ?_
          exact ⟨_, rfl, Or.inl ⟨h0, rfl, rfl⟩⟩
set_option maxRecDepth 100000 in
theorem zX8_letterKind0 (σ s : q_S) (p : Int) (rd : Int → Int) (hI : IM σ) (hp : 0 ≤ p ∧ p ≤ 1000) : q_Ct mX8_letterKind shM [.inr (.inr 0)] (ovM σ (tm s p 0 rd)) (fun r σ' => ∃ z, r = some z ∧ ((0 ≤ ixL ((tT (tx σ)) p) 12 0 ∧ z = .inl (ixL ((tT (tx σ)) p) 12 0) ∧ σ' = (ovM σ (tm s (p + 1) 0 rd))) ∨ (¬ 0 ≤ ixL ((tT (tx σ)) p) 12 0 ∧ z = .inl 0 ∧ σ' = (ovM σ (tm s p 1 rd))))) := by
  refine q_ct 1 (by decide) rfl rfl ?_
  show q_WP mX8_letterKind shM 0 [some (.inr (.inr 0)), none] [] (ovM σ (tm s p 0 rd)) _
  refine q_iconst (n := 1) dX8_letterKind_0 rfl (k := ?_)
  refine q_istore_n (n := 2) dX8_letterKind_1 rfl (Nat.le_of_ble_eq_true rfl) (q_s1_1 rfl) ?_
  exact lpX8_lk σ s p rd hI hp 12 0 (by decide) (by decide)
/-- where a reading ends -/
def stR (X : Int ⊕ ((Int → Int) × Int)) (σ s : q_S) (σ' : q_S) : Prop := match X with
  | .inl q => ∃ rd', σ' = ovM σ (tm s q 1 rd')
  | .inr (rd', q) => σ' = ovM σ (tm s q 0 rd')
def poR (X : Int ⊕ (Int × Int)) (rd : Int → Int) : Int ⊕ ((Int → Int) × Int) := match X with
  | .inl q => .inl q
  | .inr (os, q) => .inr (ud rd 3 os, q)
theorem ud3 {rd : Int → Int} {a b c : Int} : ud (ud (ud rd 2 a) 3 b) 3 c = ud (ud rd 2 a) 3 c := ud_ud
set_option maxHeartbeats 1000000 in
set_option maxRecDepth 100000 in
theorem lpX8_ro1 (σ s : q_S) (p i : Int) (rd : Int → Int) (hi : 0 ≤ i ∧ i ≤ 3) : q_WP mX8_readsVertex shM 82 [some (.inr (.inr 0)), some (.inl i)] [] (ovM σ (tm s p 1 rd)) (fun r σ' => r = none ∧ σ' = (ovM σ (tm s p 1 rd))) := by
  skip
  refine q_iload_n (n := 83) dX8_readsVertex_82 rfl rfl ?_
  refine q_iconst (n := 84) dX8_readsVertex_83 rfl (k := ?_)
  refine q_icmp_ge (n := 87) (t := 138) dX8_readsVertex_84 rfl (by decide) (fun h84 => ?_) (fun h84 => ?_)
  · skip
    refine q_vret dX8_readsVertex_138 rfl ?_
    exact ⟨rfl, rfl⟩
  · skip
    refine q_aload_n (n := 88) dX8_readsVertex_87 rfl rfl ?_
    refine q_getIE (1) (kI := 30) (n := 91) (by decide) dX8_readsVertex_88 rfl fX8_331 mi0 rfl rfl om_tw ?_
    refine q_if_ne (n := 94) (t := 138) dX8_readsVertex_91 rfl (by decide) (fun h91 => ?_) (fun h91 => ?_)
    · skip
      refine q_vret dX8_readsVertex_138 rfl ?_
      exact ⟨rfl, rfl⟩
    · exact absurd h91 (by decide)
set_option maxHeartbeats 1000000 in
set_option maxRecDepth 100000 in
theorem lpX8_ro0 (σ s : q_S) (hI : IM σ) (rd : Int → Int) : ∀ (n : Nat) (i p os : Int), (n : Int) + i = 3 → 0 ≤ i → (0 ≤ p ∧ p + 2 * n ≤ 1000) → q_WP mX8_readsVertex shM 82 [some (.inr (.inr 0)), some (.inl i)] [] (ovM σ (tm s p 0 (ud rd 3 os))) (fun r σ' => r = none ∧ stR (poR (pOuts (tT (tx σ)) n i p os) rd) σ s σ') := by
  intro n
  induction n with
  | zero =>
    intro i p os hi h0 hp
    refine q_iload_n (n := 83) dX8_readsVertex_82 rfl rfl ?_
    refine q_iconst (n := 84) dX8_readsVertex_83 rfl (k := ?_)
    refine q_icmp_ge (n := 87) (t := 138) dX8_readsVertex_84 rfl (by decide) (fun h84 => ?_) (fun h84 => ?_)
    · skip
      refine q_vret dX8_readsVertex_138 rfl ?_
      exact ⟨rfl, rfl⟩
    · exact absurd h84 (by omega)
  | succ n ih =>
    intro i p os hi h0 hp
    rw [pOuts]
    refine q_iload_n (n := 83) dX8_readsVertex_82 rfl rfl ?_
    refine q_iconst (n := 84) dX8_readsVertex_83 rfl (k := ?_)
    refine q_icmp_ge (n := 87) (t := 138) dX8_readsVertex_84 rfl (by decide) (fun h84 => ?_) (fun h84 => ?_)
    · exact absurd h84 (by omega)
    · skip
      refine q_aload_n (n := 88) dX8_readsVertex_87 rfl rfl ?_
      refine q_getIE (0) (kI := 30) (n := 91) (by decide) dX8_readsVertex_88 rfl fX8_331 mi0 rfl rfl om_tw ?_
      refine q_if_ne (n := 94) (t := 138) dX8_readsVertex_91 rfl (by decide) (fun h91 => ?_) (fun h91 => ?_)
      · exact absurd h91 (by decide)
      · skip
        refine q_iload_n (n := 95) dX8_readsVertex_94 rfl rfl ?_
        refine q_if_eq (n := 98) (t := 111) dX8_readsVertex_95 rfl (by decide) (fun h95 => ?_) (fun h95 => ?_)
        · skip
          refine q_aload_n (n := 112) dX8_readsVertex_111 rfl rfl ?_
          refine q_bipush (n := 114) dX8_readsVertex_112 rfl (k := ?_)
          refine q_v1W (n := 117) dX8_readsVertex_114 rfl (zX8_takes0 62 σ s _ _ hI ⟨by omega, by omega⟩) vX8_takes lX8_341 rfl rfl mi0 rfl (fun σ114 h114 => ?_)
          obtain ⟨f114, rfl⟩ | ⟨f114, rfl⟩ := h114
          · skip
            refine q_aload_n (n := 118) dX8_readsVertex_117 rfl rfl ?_
            refine q_getR (n := 121) dX8_readsVertex_118 rfl fX8_66 mi0 rfl ?_
            refine q_iconst (n := 122) dX8_readsVertex_121 rfl (k := ?_)
            refine q_dup2 (n := 123) dX8_readsVertex_122 rfl rfl rfl ?_
            refine q_ialoadE (os) (n := 124) dX8_readsVertex_123 rfl mi15 ⟨by omega, by omega⟩ (om_tr.trans ud_s) ?_
            refine q_iconst (n := 125) dX8_readsVertex_124 rfl (k := ?_)
            refine q_aload_n (n := 126) dX8_readsVertex_125 rfl rfl ?_
            refine q_v0 (n := 129) dX8_readsVertex_126 rfl (zX8_figure0 σ s _ _ hI ⟨by omega, by omega⟩) vX8_figure lX8_338 rfl rfl mi0 rfl (fun v126 σ126 h126 => ?_)
            rcases h126 with ⟨f126, rfl, rfl⟩ | ⟨f126, rfl, rfl⟩
            · skip
              refine q_ishl (n := 130) dX8_readsVertex_129 rfl ?_
              refine q_ior (n := 131) dX8_readsVertex_130 rfl ?_
              refine q_iastore (n := 132) dX8_readsVertex_131 rfl mi15 ⟨by omega, by omega⟩ ?_
              rw [om_sr, ud_ud]
              refine q_iinc (n := 135) dX8_readsVertex_132 rfl (Nat.le_of_ble_eq_true rfl) rfl (q_nwid ⟨by omega, by omega⟩) (q_s1_1 rfl) ?_
              refine q_go (t := 82) dX8_readsVertex_135 (by decide) ?_
              first
                | (rw [if_pos f114, if_pos f126]
                   exact ih (i + 1) _ _ (by omega) (by omega) ⟨by omega, by omega⟩)
                | (rw [if_pos f114, if_neg f126]
                   exact (lpX8_ro1 σ s _ (i + 1) _ ⟨by omega, by omega⟩).imp (fun r σ2 h => ⟨h.1, _, h.2⟩))
                | (have hi0 : i = 0 := by first | assumption | exact absurd ‹_› f114
                   rw [if_neg f114, if_pos hi0]
                   exact (lpX8_ro1 σ s _ (i + 1) _ ⟨by omega, by omega⟩).imp (fun r σ2 h => ⟨h.1, _, h.2⟩))
            · skip
              refine q_ishl (n := 130) dX8_readsVertex_129 rfl ?_
              refine q_ior (n := 131) dX8_readsVertex_130 rfl ?_
              refine q_iastore (n := 132) dX8_readsVertex_131 rfl mi15 ⟨by omega, by omega⟩ ?_
              rw [om_sr, ud_ud]
              refine q_iinc (n := 135) dX8_readsVertex_132 rfl (Nat.le_of_ble_eq_true rfl) rfl (q_nwid ⟨by omega, by omega⟩) (q_s1_1 rfl) ?_
              refine q_go (t := 82) dX8_readsVertex_135 (by decide) ?_
              first
                | (rw [if_pos f114, if_pos f126]
                   exact ih (i + 1) _ _ (by omega) (by omega) ⟨by omega, by omega⟩)
                | (rw [if_pos f114, if_neg f126]
                   exact (lpX8_ro1 σ s _ (i + 1) _ ⟨by omega, by omega⟩).imp (fun r σ2 h => ⟨h.1, _, h.2⟩))
                | (have hi0 : i = 0 := by first | assumption | exact absurd ‹_› f114
                   rw [if_neg f114, if_pos hi0]
                   exact (lpX8_ro1 σ s _ (i + 1) _ ⟨by omega, by omega⟩).imp (fun r σ2 h => ⟨h.1, _, h.2⟩))
          · skip
            refine q_aload_n (n := 118) dX8_readsVertex_117 rfl rfl ?_
            refine q_getR (n := 121) dX8_readsVertex_118 rfl fX8_66 mi0 rfl ?_
            refine q_iconst (n := 122) dX8_readsVertex_121 rfl (k := ?_)
            refine q_dup2 (n := 123) dX8_readsVertex_122 rfl rfl rfl ?_
            refine q_ialoadE (os) (n := 124) dX8_readsVertex_123 rfl mi15 ⟨by omega, by omega⟩ (om_tr.trans ud_s) ?_
            refine q_iconst (n := 125) dX8_readsVertex_124 rfl (k := ?_)
            refine q_aload_n (n := 126) dX8_readsVertex_125 rfl rfl ?_
            refine q_v0D (n := 129) dX8_readsVertex_126 rfl (zX8_figure1 σ s _ _ hI ⟨by omega, by omega⟩) vX8_figure lX8_338 rfl rfl mi0 rfl ?_
            refine q_ishl (n := 130) dX8_readsVertex_129 rfl ?_
            refine q_ior (n := 131) dX8_readsVertex_130 rfl ?_
            refine q_iastore (n := 132) dX8_readsVertex_131 rfl mi15 ⟨by omega, by omega⟩ ?_
            rw [om_sr, ud_ud]
            refine q_iinc (n := 135) dX8_readsVertex_132 rfl (Nat.le_of_ble_eq_true rfl) rfl (q_nwid ⟨by omega, by omega⟩) (q_s1_1 rfl) ?_
            refine q_go (t := 82) dX8_readsVertex_135 (by decide) ?_
            first
              | (rw [if_pos f114, if_pos f126]
                 exact ih (i + 1) _ _ (by omega) (by omega) ⟨by omega, by omega⟩)
              | (rw [if_pos f114, if_neg f126]
                 exact (lpX8_ro1 σ s _ (i + 1) _ ⟨by omega, by omega⟩).imp (fun r σ2 h => ⟨h.1, _, h.2⟩))
              | (have hi0 : i = 0 := by first | assumption | exact absurd ‹_› f114
                 rw [if_neg f114, if_pos hi0]
                 exact (lpX8_ro1 σ s _ (i + 1) _ ⟨by omega, by omega⟩).imp (fun r σ2 h => ⟨h.1, _, h.2⟩))
        · skip
          refine q_aload_n (n := 99) dX8_readsVertex_98 rfl rfl ?_
          refine q_aload_n (n := 100) dX8_readsVertex_99 rfl rfl ?_
          refine q_getIE (p) (kI := 29) (n := 103) (by decide) dX8_readsVertex_100 rfl fX8_321 mi0 rfl rfl om_tp ?_
          refine q_v1D (n := 106) dX8_readsVertex_103 rfl (zX8_byteAt _ σ _ hI (by omega)) vX8_byteAt lX8_324 rfl rfl mi0 rfl ?_
          refine q_bipush (n := 108) dX8_readsVertex_106 rfl (k := ?_)
          refine q_icmp_ne (n := 111) (t := 138) dX8_readsVertex_108 rfl (by decide) (fun h108 => ?_) (fun h108 => ?_)
          · skip
            refine q_vret dX8_readsVertex_138 rfl ?_
            rw [if_neg h108, if_neg h95]
            exact ⟨rfl, rfl⟩
          · skip
            refine q_aload_n (n := 112) dX8_readsVertex_111 rfl rfl ?_
            refine q_bipush (n := 114) dX8_readsVertex_112 rfl (k := ?_)
            refine q_v1W (n := 117) dX8_readsVertex_114 rfl (zX8_takes0 62 σ s _ _ hI ⟨by omega, by omega⟩) vX8_takes lX8_341 rfl rfl mi0 rfl (fun σ114 h114 => ?_)
            obtain ⟨f114, rfl⟩ | ⟨f114, rfl⟩ := h114
            · skip
              refine q_aload_n (n := 118) dX8_readsVertex_117 rfl rfl ?_
              refine q_getR (n := 121) dX8_readsVertex_118 rfl fX8_66 mi0 rfl ?_
              refine q_iconst (n := 122) dX8_readsVertex_121 rfl (k := ?_)
              refine q_dup2 (n := 123) dX8_readsVertex_122 rfl rfl rfl ?_
              refine q_ialoadE (os) (n := 124) dX8_readsVertex_123 rfl mi15 ⟨by omega, by omega⟩ (om_tr.trans ud_s) ?_
              refine q_iconst (n := 125) dX8_readsVertex_124 rfl (k := ?_)
              refine q_aload_n (n := 126) dX8_readsVertex_125 rfl rfl ?_
              refine q_v0 (n := 129) dX8_readsVertex_126 rfl (zX8_figure0 σ s _ _ hI ⟨by omega, by omega⟩) vX8_figure lX8_338 rfl rfl mi0 rfl (fun v126 σ126 h126 => ?_)
              rcases h126 with ⟨f126, rfl, rfl⟩ | ⟨f126, rfl, rfl⟩
              · skip
                refine q_ishl (n := 130) dX8_readsVertex_129 rfl ?_
                refine q_ior (n := 131) dX8_readsVertex_130 rfl ?_
                refine q_iastore (n := 132) dX8_readsVertex_131 rfl mi15 ⟨by omega, by omega⟩ ?_
                rw [om_sr, ud_ud]
                refine q_iinc (n := 135) dX8_readsVertex_132 rfl (Nat.le_of_ble_eq_true rfl) rfl (q_nwid ⟨by omega, by omega⟩) (q_s1_1 rfl) ?_
                refine q_go (t := 82) dX8_readsVertex_135 (by decide) ?_
                first
                  | (rw [if_pos f114, if_pos f126]
                     exact ih (i + 1) _ _ (by omega) (by omega) ⟨by omega, by omega⟩)
                  | (rw [if_pos f114, if_neg f126]
                     exact (lpX8_ro1 σ s _ (i + 1) _ ⟨by omega, by omega⟩).imp (fun r σ2 h => ⟨h.1, _, h.2⟩))
                  | (have hi0 : i = 0 := by first | assumption | exact absurd ‹_› f114
                     rw [if_neg f114, if_pos hi0]
                     exact (lpX8_ro1 σ s _ (i + 1) _ ⟨by omega, by omega⟩).imp (fun r σ2 h => ⟨h.1, _, h.2⟩))
              · skip
                refine q_ishl (n := 130) dX8_readsVertex_129 rfl ?_
                refine q_ior (n := 131) dX8_readsVertex_130 rfl ?_
                refine q_iastore (n := 132) dX8_readsVertex_131 rfl mi15 ⟨by omega, by omega⟩ ?_
                rw [om_sr, ud_ud]
                refine q_iinc (n := 135) dX8_readsVertex_132 rfl (Nat.le_of_ble_eq_true rfl) rfl (q_nwid ⟨by omega, by omega⟩) (q_s1_1 rfl) ?_
                refine q_go (t := 82) dX8_readsVertex_135 (by decide) ?_
                first
                  | (rw [if_pos f114, if_pos f126]
                     exact ih (i + 1) _ _ (by omega) (by omega) ⟨by omega, by omega⟩)
                  | (rw [if_pos f114, if_neg f126]
                     exact (lpX8_ro1 σ s _ (i + 1) _ ⟨by omega, by omega⟩).imp (fun r σ2 h => ⟨h.1, _, h.2⟩))
                  | (have hi0 : i = 0 := by first | assumption | exact absurd ‹_› f114
                     rw [if_neg f114, if_pos hi0]
                     exact (lpX8_ro1 σ s _ (i + 1) _ ⟨by omega, by omega⟩).imp (fun r σ2 h => ⟨h.1, _, h.2⟩))
            · skip
              refine q_aload_n (n := 118) dX8_readsVertex_117 rfl rfl ?_
              refine q_getR (n := 121) dX8_readsVertex_118 rfl fX8_66 mi0 rfl ?_
              refine q_iconst (n := 122) dX8_readsVertex_121 rfl (k := ?_)
              refine q_dup2 (n := 123) dX8_readsVertex_122 rfl rfl rfl ?_
              refine q_ialoadE (os) (n := 124) dX8_readsVertex_123 rfl mi15 ⟨by omega, by omega⟩ (om_tr.trans ud_s) ?_
              refine q_iconst (n := 125) dX8_readsVertex_124 rfl (k := ?_)
              refine q_aload_n (n := 126) dX8_readsVertex_125 rfl rfl ?_
              refine q_v0D (n := 129) dX8_readsVertex_126 rfl (zX8_figure1 σ s _ _ hI ⟨by omega, by omega⟩) vX8_figure lX8_338 rfl rfl mi0 rfl ?_
              refine q_ishl (n := 130) dX8_readsVertex_129 rfl ?_
              refine q_ior (n := 131) dX8_readsVertex_130 rfl ?_
              refine q_iastore (n := 132) dX8_readsVertex_131 rfl mi15 ⟨by omega, by omega⟩ ?_
              rw [om_sr, ud_ud]
              refine q_iinc (n := 135) dX8_readsVertex_132 rfl (Nat.le_of_ble_eq_true rfl) rfl (q_nwid ⟨by omega, by omega⟩) (q_s1_1 rfl) ?_
              refine q_go (t := 82) dX8_readsVertex_135 (by decide) ?_
              first
                | (rw [if_pos f114, if_pos f126]
                   exact ih (i + 1) _ _ (by omega) (by omega) ⟨by omega, by omega⟩)
                | (rw [if_pos f114, if_neg f126]
                   exact (lpX8_ro1 σ s _ (i + 1) _ ⟨by omega, by omega⟩).imp (fun r σ2 h => ⟨h.1, _, h.2⟩))
                | (have hi0 : i = 0 := by first | assumption | exact absurd ‹_› f114
                   rw [if_neg f114, if_pos hi0]
                   exact (lpX8_ro1 σ s _ (i + 1) _ ⟨by omega, by omega⟩).imp (fun r σ2 h => ⟨h.1, _, h.2⟩))
def vxR (T : Int → Int) (p : Int) (rd : Int → Int) : Int ⊕ ((Int → Int) × Int) := match pNum T p with
  | .inl q => .inl q
  | .inr (x, q) => if T q = 44 then (match pNum T (q + 1) with
    | .inl q' => .inl q'
    | .inr (y, q') => pTies T q' (ud (ud rd 0 x) 1 y)) else .inl q
theorem vxR_e {T : Int → Int} {p : Int} {rd : Int → Int} : (match pNums T 2 0 p rd with | .inl q => (.inl q : Int ⊕ ((Int → Int) × Int)) | .inr (rd', q) => pTies T q rd') = vxR T p rd := by
  unfold vxR
  rw [pNums, if_pos rfl]
  cases h : pNum T p with
  | inl q => rfl
  | inr xq =>
    obtain ⟨x, q⟩ := xq
    dsimp only
    rw [pNums, if_neg (by decide)]
    by_cases h2 : T q = 44
    · rw [if_pos h2, if_pos h2]
      cases h3 : pNum T (q + 1) with
      | inl q' => rfl
      | inr yq =>
        obtain ⟨y, q'⟩ := yq
        rfl
    · rw [if_neg h2, if_neg h2]
theorem pTies_po {T : Int → Int} {p : Int} {rd : Int → Int} : pTies T p rd = if T p = 60 then (if fig T (p + 1) then poR (pOuts T 3 0 (p + 1 + 1) 0) (ud rd 2 (T (p + 1) - 48)) else .inl (p + 1)) else poR (pOuts T 3 0 p 0) (ud rd 2 (-1)) := by
  unfold pTies poR
  rfl
theorem stR_c {X : Int ⊕ ((Int → Int) × Int)} {σ s σ' : q_S} (h : stR X σ s σ') : (∃ q, X = .inl q ∧ ∃ rd', σ' = ovM σ (tm s q 1 rd')) ∨ (∃ rd' q, X = .inr (rd', q) ∧ σ' = ovM σ (tm s q 0 rd')) := by
  cases X with
  | inl q => exact Or.inl ⟨q, rfl, h⟩
  | inr xq =>
    obtain ⟨x, q⟩ := xq
    exact Or.inr ⟨x, q, rfl, h⟩
set_option maxRecDepth 100000 in
theorem zX8_readsVertex (σ s : q_S) (p : Int) (rd : Int → Int) (hI : IM σ) (hp : 0 ≤ p ∧ p ≤ σ 0 28) : q_Ct mX8_readsVertex shM [.inr (.inr 0)] (ovM σ (tm s p 0 rd)) (fun r σ' => r = none ∧ stR (vxR (tT (tx σ)) p rd) σ s σ') := by
  refine q_ct 1 (by decide) rfl rfl ?_
  show q_WP mX8_readsVertex shM 0 [some (.inr (.inr 0)), none] [] (ovM σ (tm s p 0 rd)) _
  have hl := hI.2.2.2.2.1
  have e1 := @tx_1 σ
  refine q_aload_n (n := 1) dX8_readsVertex_0 rfl rfl ?_
  refine q_getR (n := 4) dX8_readsVertex_1 rfl fX8_66 mi0 rfl ?_
  refine q_iconst (n := 5) dX8_readsVertex_4 rfl (k := ?_)
  refine q_aload_n (n := 6) dX8_readsVertex_5 rfl rfl ?_
  refine q_v0 (n := 9) dX8_readsVertex_6 rfl (zX8_number0 σ s _ _ hI ⟨by omega, by omega⟩) vX8_number lX8_344 rfl rfl mi0 rfl (fun v6 σ6 h6 => ?_)
  rcases h6 with ⟨x6, q6, f6, rfl, rfl⟩ | ⟨q6, f6, rfl, rfl⟩
  · skip
    first
      | have b6 := ((pNum_in (σ := tx σ) (pl := p) ⟨by omega, by omega⟩).2 f6).1
      | have b6 := (pNum_in (σ := tx σ) (pl := p) (x := 0) ⟨by omega, by omega⟩).1 f6
      | skip
    refine q_iastore (n := 10) dX8_readsVertex_9 rfl mi15 ⟨by omega, by omega⟩ ?_
    rw [om_sr]
    refine q_aload_n (n := 11) dX8_readsVertex_10 rfl rfl ?_
    refine q_bipush (n := 13) dX8_readsVertex_11 rfl (k := ?_)
    refine q_v1W (n := 16) dX8_readsVertex_13 rfl (zX8_takes0 44 σ s _ _ hI ⟨by omega, by omega⟩) vX8_takes lX8_341 rfl rfl mi0 rfl (fun σ13 h13 => ?_)
    obtain ⟨f13, rfl⟩ | ⟨f13, rfl⟩ := h13
    · skip
      first
        | have b13 := tT_lt (σ := tx σ) (p := q6) (by rw [f13]; decide)
        | skip
      refine q_aload_n (n := 17) dX8_readsVertex_16 rfl rfl ?_
      refine q_getR (n := 20) dX8_readsVertex_17 rfl fX8_66 mi0 rfl ?_
      refine q_iconst (n := 21) dX8_readsVertex_20 rfl (k := ?_)
      refine q_aload_n (n := 22) dX8_readsVertex_21 rfl rfl ?_
      refine q_v0 (n := 25) dX8_readsVertex_22 rfl (zX8_number0 σ s _ _ hI ⟨by omega, by omega⟩) vX8_number lX8_344 rfl rfl mi0 rfl (fun v22 σ22 h22 => ?_)
      rcases h22 with ⟨x22, q22, f22, rfl, rfl⟩ | ⟨q22, f22, rfl, rfl⟩
      · skip
        first
          | have b22 := ((pNum_in (σ := tx σ) (pl := q6 + 1) ⟨by omega, by omega⟩).2 f22).1
          | have b22 := (pNum_in (σ := tx σ) (pl := q6 + 1) (x := 0) ⟨by omega, by omega⟩).1 f22
          | skip
        refine q_iastore (n := 26) dX8_readsVertex_25 rfl mi15 ⟨by omega, by omega⟩ ?_
        rw [om_sr]
        refine q_aload_n (n := 27) dX8_readsVertex_26 rfl rfl ?_
        refine q_getR (n := 30) dX8_readsVertex_27 rfl fX8_66 mi0 rfl ?_
        refine q_iconst (n := 31) dX8_readsVertex_30 rfl (k := ?_)
        refine q_iconst (n := 32) dX8_readsVertex_31 rfl (k := ?_)
        refine q_iastore (n := 33) dX8_readsVertex_32 rfl mi15 ⟨by omega, by omega⟩ ?_
        rw [om_sr]
        refine q_aload_n (n := 34) dX8_readsVertex_33 rfl rfl ?_
        refine q_getIE (0) (kI := 30) (n := 37) (by decide) dX8_readsVertex_34 rfl fX8_331 mi0 rfl rfl om_tw ?_
        refine q_if_ne (n := 40) (t := 73) dX8_readsVertex_37 rfl (by decide) (fun h37 => ?_) (fun h37 => ?_)
        · exact absurd h37 (by decide)
        · skip
          refine q_aload_n (n := 41) dX8_readsVertex_40 rfl rfl ?_
          refine q_aload_n (n := 42) dX8_readsVertex_41 rfl rfl ?_
          refine q_getIE (q22) (kI := 29) (n := 45) (by decide) dX8_readsVertex_42 rfl fX8_321 mi0 rfl rfl om_tp ?_
          refine q_v1D (n := 48) dX8_readsVertex_45 rfl (zX8_byteAt _ σ _ hI (by omega)) vX8_byteAt lX8_324 rfl rfl mi0 rfl ?_
          refine q_bipush (n := 50) dX8_readsVertex_48 rfl (k := ?_)
          refine q_icmp_ne (n := 53) (t := 73) dX8_readsVertex_50 rfl (by decide) (fun h50 => ?_) (fun h50 => ?_)
          · skip
            first
              | rw [om_sr]
              | skip
            refine q_aload_n (n := 74) dX8_readsVertex_73 rfl rfl ?_
            refine q_getR (n := 77) dX8_readsVertex_74 rfl fX8_66 mi0 rfl ?_
            refine q_iconst (n := 78) dX8_readsVertex_77 rfl (k := ?_)
            refine q_iconst (n := 79) dX8_readsVertex_78 rfl (k := ?_)
            refine q_iastore (n := 80) dX8_readsVertex_79 rfl mi15 ⟨by omega, by omega⟩ ?_
            rw [om_sr]
            refine q_iconst (n := 81) dX8_readsVertex_80 rfl (k := ?_)
            refine q_istore_n (n := 82) dX8_readsVertex_81 rfl (Nat.le_of_ble_eq_true rfl) (q_s1_1 rfl) ?_
            unfold vxR
            rw [f6]
            dsimp only
            first
              | (rw [if_pos f13, f22]
                 dsimp only
                 rw [pTies_po, if_pos h50, if_pos f69]
                 rw [ud_ud]
                 exact lpX8_ro0 σ s hI _ 3 0 _ 0 (by decide) (by decide) ⟨by omega, by omega⟩)
              | (rw [if_pos f13, f22]
                 dsimp only
                 rw [pTies_po, if_pos h50, if_neg f69]
                 exact (lpX8_ro1 σ s _ 0 _ ⟨by decide, by decide⟩).imp (fun r σ2 h => ⟨h.1, _, h.2⟩))
              | (rw [if_pos f13, f22]
                 dsimp only
                 rw [pTies_po, if_neg h50]
                 exact lpX8_ro0 σ s hI _ 3 0 _ 0 (by decide) (by decide) ⟨by omega, by omega⟩)
              | (rw [if_pos f13, f22]
                 exact (lpX8_ro1 σ s _ 0 _ ⟨by decide, by decide⟩).imp (fun r σ2 h => ⟨h.1, _, h.2⟩))
              | (rw [if_neg f13]
                 exact (lpX8_ro1 σ s _ 0 _ ⟨by decide, by decide⟩).imp (fun r σ2 h => ⟨h.1, _, h.2⟩))
              | exact (lpX8_ro1 σ s _ 0 _ ⟨by decide, by decide⟩).imp (fun r σ2 h => ⟨h.1, _, h.2⟩)
          · skip
            refine q_aload_n (n := 54) dX8_readsVertex_53 rfl rfl ?_
            refine q_dup (n := 55) dX8_readsVertex_54 rfl rfl ?_
            refine q_getIE (q22) (kI := 29) (n := 58) (by decide) dX8_readsVertex_55 rfl fX8_321 mi0 rfl rfl om_tp ?_
            refine q_iconst (n := 59) dX8_readsVertex_58 rfl (k := ?_)
            refine q_iaddS (n := 60) dX8_readsVertex_59 rfl ⟨by omega, by omega⟩ ?_
            refine q_putI (kI := 29) (n := 63) dX8_readsVertex_60 rfl pX8_321 mi0 rfl rfl ?_
            rw [om_sp]
            refine q_aload_n (n := 64) dX8_readsVertex_63 rfl rfl ?_
            refine q_getR (n := 67) dX8_readsVertex_64 rfl fX8_66 mi0 rfl ?_
            refine q_iconst (n := 68) dX8_readsVertex_67 rfl (k := ?_)
            refine q_aload_n (n := 69) dX8_readsVertex_68 rfl rfl ?_
            refine q_v0 (n := 72) dX8_readsVertex_69 rfl (zX8_figure0 σ s _ _ hI ⟨by omega, by omega⟩) vX8_figure lX8_338 rfl rfl mi0 rfl (fun v69 σ69 h69 => ?_)
            rcases h69 with ⟨f69, rfl, rfl⟩ | ⟨f69, rfl, rfl⟩
            · skip
              refine q_iastore (n := 73) dX8_readsVertex_72 rfl mi15 ⟨by omega, by omega⟩ ?_
              first
                | rw [om_sr]
                | skip
              refine q_aload_n (n := 74) dX8_readsVertex_73 rfl rfl ?_
              refine q_getR (n := 77) dX8_readsVertex_74 rfl fX8_66 mi0 rfl ?_
              refine q_iconst (n := 78) dX8_readsVertex_77 rfl (k := ?_)
              refine q_iconst (n := 79) dX8_readsVertex_78 rfl (k := ?_)
              refine q_iastore (n := 80) dX8_readsVertex_79 rfl mi15 ⟨by omega, by omega⟩ ?_
              rw [om_sr]
              refine q_iconst (n := 81) dX8_readsVertex_80 rfl (k := ?_)
              refine q_istore_n (n := 82) dX8_readsVertex_81 rfl (Nat.le_of_ble_eq_true rfl) (q_s1_1 rfl) ?_
              unfold vxR
              rw [f6]
              dsimp only
              first
                | (rw [if_pos f13, f22]
                   dsimp only
                   rw [pTies_po, if_pos h50, if_pos f69]
                   rw [ud_ud]
                   exact lpX8_ro0 σ s hI _ 3 0 _ 0 (by decide) (by decide) ⟨by omega, by omega⟩)
                | (rw [if_pos f13, f22]
                   dsimp only
                   rw [pTies_po, if_pos h50, if_neg f69]
                   exact (lpX8_ro1 σ s _ 0 _ ⟨by decide, by decide⟩).imp (fun r σ2 h => ⟨h.1, _, h.2⟩))
                | (rw [if_pos f13, f22]
                   dsimp only
                   rw [pTies_po, if_neg h50]
                   exact lpX8_ro0 σ s hI _ 3 0 _ 0 (by decide) (by decide) ⟨by omega, by omega⟩)
                | (rw [if_pos f13, f22]
                   exact (lpX8_ro1 σ s _ 0 _ ⟨by decide, by decide⟩).imp (fun r σ2 h => ⟨h.1, _, h.2⟩))
                | (rw [if_neg f13]
                   exact (lpX8_ro1 σ s _ 0 _ ⟨by decide, by decide⟩).imp (fun r σ2 h => ⟨h.1, _, h.2⟩))
                | exact (lpX8_ro1 σ s _ 0 _ ⟨by decide, by decide⟩).imp (fun r σ2 h => ⟨h.1, _, h.2⟩)
            · skip
              refine q_iastore (n := 73) dX8_readsVertex_72 rfl mi15 ⟨by omega, by omega⟩ ?_
              first
                | rw [om_sr]
                | skip
              refine q_aload_n (n := 74) dX8_readsVertex_73 rfl rfl ?_
              refine q_getR (n := 77) dX8_readsVertex_74 rfl fX8_66 mi0 rfl ?_
              refine q_iconst (n := 78) dX8_readsVertex_77 rfl (k := ?_)
              refine q_iconst (n := 79) dX8_readsVertex_78 rfl (k := ?_)
              refine q_iastore (n := 80) dX8_readsVertex_79 rfl mi15 ⟨by omega, by omega⟩ ?_
              rw [om_sr]
              refine q_iconst (n := 81) dX8_readsVertex_80 rfl (k := ?_)
              refine q_istore_n (n := 82) dX8_readsVertex_81 rfl (Nat.le_of_ble_eq_true rfl) (q_s1_1 rfl) ?_
              unfold vxR
              rw [f6]
              dsimp only
              first
                | (rw [if_pos f13, f22]
                   dsimp only
                   rw [pTies_po, if_pos h50, if_pos f69]
                   rw [ud_ud]
                   exact lpX8_ro0 σ s hI _ 3 0 _ 0 (by decide) (by decide) ⟨by omega, by omega⟩)
                | (rw [if_pos f13, f22]
                   dsimp only
                   rw [pTies_po, if_pos h50, if_neg f69]
                   exact (lpX8_ro1 σ s _ 0 _ ⟨by decide, by decide⟩).imp (fun r σ2 h => ⟨h.1, _, h.2⟩))
                | (rw [if_pos f13, f22]
                   dsimp only
                   rw [pTies_po, if_neg h50]
                   exact lpX8_ro0 σ s hI _ 3 0 _ 0 (by decide) (by decide) ⟨by omega, by omega⟩)
                | (rw [if_pos f13, f22]
                   exact (lpX8_ro1 σ s _ 0 _ ⟨by decide, by decide⟩).imp (fun r σ2 h => ⟨h.1, _, h.2⟩))
                | (rw [if_neg f13]
                   exact (lpX8_ro1 σ s _ 0 _ ⟨by decide, by decide⟩).imp (fun r σ2 h => ⟨h.1, _, h.2⟩))
                | exact (lpX8_ro1 σ s _ 0 _ ⟨by decide, by decide⟩).imp (fun r σ2 h => ⟨h.1, _, h.2⟩)
      · skip
        first
          | have b22 := ((pNum_in (σ := tx σ) (pl := q6 + 1) ⟨by omega, by omega⟩).2 f22).1
          | have b22 := (pNum_in (σ := tx σ) (pl := q6 + 1) (x := 0) ⟨by omega, by omega⟩).1 f22
          | skip
        refine q_iastore (n := 26) dX8_readsVertex_25 rfl mi15 ⟨by omega, by omega⟩ ?_
        rw [om_sr]
        refine q_aload_n (n := 27) dX8_readsVertex_26 rfl rfl ?_
        refine q_getR (n := 30) dX8_readsVertex_27 rfl fX8_66 mi0 rfl ?_
        refine q_iconst (n := 31) dX8_readsVertex_30 rfl (k := ?_)
        refine q_iconst (n := 32) dX8_readsVertex_31 rfl (k := ?_)
        refine q_iastore (n := 33) dX8_readsVertex_32 rfl mi15 ⟨by omega, by omega⟩ ?_
        rw [om_sr]
        refine q_aload_n (n := 34) dX8_readsVertex_33 rfl rfl ?_
        refine q_getIE (1) (kI := 30) (n := 37) (by decide) dX8_readsVertex_34 rfl fX8_331 mi0 rfl rfl om_tw ?_
        refine q_if_ne (n := 40) (t := 73) dX8_readsVertex_37 rfl (by decide) (fun h37 => ?_) (fun h37 => ?_)
        · skip
          first
            | rw [om_sr]
            | skip
          refine q_aload_n (n := 74) dX8_readsVertex_73 rfl rfl ?_
          refine q_getR (n := 77) dX8_readsVertex_74 rfl fX8_66 mi0 rfl ?_
          refine q_iconst (n := 78) dX8_readsVertex_77 rfl (k := ?_)
          refine q_iconst (n := 79) dX8_readsVertex_78 rfl (k := ?_)
          refine q_iastore (n := 80) dX8_readsVertex_79 rfl mi15 ⟨by omega, by omega⟩ ?_
          rw [om_sr]
          refine q_iconst (n := 81) dX8_readsVertex_80 rfl (k := ?_)
          refine q_istore_n (n := 82) dX8_readsVertex_81 rfl (Nat.le_of_ble_eq_true rfl) (q_s1_1 rfl) ?_
          unfold vxR
          rw [f6]
          dsimp only
          first
            | (rw [if_pos f13, f22]
               dsimp only
               rw [pTies_po, if_pos h50, if_pos f69]
               rw [ud_ud]
               exact lpX8_ro0 σ s hI _ 3 0 _ 0 (by decide) (by decide) ⟨by omega, by omega⟩)
            | (rw [if_pos f13, f22]
               dsimp only
               rw [pTies_po, if_pos h50, if_neg f69]
               exact (lpX8_ro1 σ s _ 0 _ ⟨by decide, by decide⟩).imp (fun r σ2 h => ⟨h.1, _, h.2⟩))
            | (rw [if_pos f13, f22]
               dsimp only
               rw [pTies_po, if_neg h50]
               exact lpX8_ro0 σ s hI _ 3 0 _ 0 (by decide) (by decide) ⟨by omega, by omega⟩)
            | (rw [if_pos f13, f22]
               exact (lpX8_ro1 σ s _ 0 _ ⟨by decide, by decide⟩).imp (fun r σ2 h => ⟨h.1, _, h.2⟩))
            | (rw [if_neg f13]
               exact (lpX8_ro1 σ s _ 0 _ ⟨by decide, by decide⟩).imp (fun r σ2 h => ⟨h.1, _, h.2⟩))
            | exact (lpX8_ro1 σ s _ 0 _ ⟨by decide, by decide⟩).imp (fun r σ2 h => ⟨h.1, _, h.2⟩)
        · exact absurd h37 (by decide)
    · skip
      first
        | have b13 := tT_lt (σ := tx σ) (p := q6) (by rw [f13]; decide)
        | skip
      refine q_aload_n (n := 17) dX8_readsVertex_16 rfl rfl ?_
      refine q_getR (n := 20) dX8_readsVertex_17 rfl fX8_66 mi0 rfl ?_
      refine q_iconst (n := 21) dX8_readsVertex_20 rfl (k := ?_)
      refine q_aload_n (n := 22) dX8_readsVertex_21 rfl rfl ?_
      refine q_v0D (n := 25) dX8_readsVertex_22 rfl (zX8_number1 σ s _ _ hI ⟨by omega, by omega⟩) vX8_number lX8_344 rfl rfl mi0 rfl ?_
      first
        | have b22 := ((pNum_in (σ := tx σ) (pl := q6 + 1) ⟨by omega, by omega⟩).2 f22).1
        | have b22 := (pNum_in (σ := tx σ) (pl := q6 + 1) (x := 0) ⟨by omega, by omega⟩).1 f22
        | skip
      refine q_iastore (n := 26) dX8_readsVertex_25 rfl mi15 ⟨by omega, by omega⟩ ?_
      rw [om_sr]
      refine q_aload_n (n := 27) dX8_readsVertex_26 rfl rfl ?_
      refine q_getR (n := 30) dX8_readsVertex_27 rfl fX8_66 mi0 rfl ?_
      refine q_iconst (n := 31) dX8_readsVertex_30 rfl (k := ?_)
      refine q_iconst (n := 32) dX8_readsVertex_31 rfl (k := ?_)
      refine q_iastore (n := 33) dX8_readsVertex_32 rfl mi15 ⟨by omega, by omega⟩ ?_
      rw [om_sr]
      refine q_aload_n (n := 34) dX8_readsVertex_33 rfl rfl ?_
      refine q_getIE (1) (kI := 30) (n := 37) (by decide) dX8_readsVertex_34 rfl fX8_331 mi0 rfl rfl om_tw ?_
      refine q_if_ne (n := 40) (t := 73) dX8_readsVertex_37 rfl (by decide) (fun h37 => ?_) (fun h37 => ?_)
      · skip
        first
          | rw [om_sr]
          | skip
        refine q_aload_n (n := 74) dX8_readsVertex_73 rfl rfl ?_
        refine q_getR (n := 77) dX8_readsVertex_74 rfl fX8_66 mi0 rfl ?_
        refine q_iconst (n := 78) dX8_readsVertex_77 rfl (k := ?_)
        refine q_iconst (n := 79) dX8_readsVertex_78 rfl (k := ?_)
        refine q_iastore (n := 80) dX8_readsVertex_79 rfl mi15 ⟨by omega, by omega⟩ ?_
        rw [om_sr]
        refine q_iconst (n := 81) dX8_readsVertex_80 rfl (k := ?_)
        refine q_istore_n (n := 82) dX8_readsVertex_81 rfl (Nat.le_of_ble_eq_true rfl) (q_s1_1 rfl) ?_
        unfold vxR
        rw [f6]
        dsimp only
        first
          | (rw [if_pos f13, f22]
             dsimp only
             rw [pTies_po, if_pos h50, if_pos f69]
             rw [ud_ud]
             exact lpX8_ro0 σ s hI _ 3 0 _ 0 (by decide) (by decide) ⟨by omega, by omega⟩)
          | (rw [if_pos f13, f22]
             dsimp only
             rw [pTies_po, if_pos h50, if_neg f69]
             exact (lpX8_ro1 σ s _ 0 _ ⟨by decide, by decide⟩).imp (fun r σ2 h => ⟨h.1, _, h.2⟩))
          | (rw [if_pos f13, f22]
             dsimp only
             rw [pTies_po, if_neg h50]
             exact lpX8_ro0 σ s hI _ 3 0 _ 0 (by decide) (by decide) ⟨by omega, by omega⟩)
          | (rw [if_pos f13, f22]
             exact (lpX8_ro1 σ s _ 0 _ ⟨by decide, by decide⟩).imp (fun r σ2 h => ⟨h.1, _, h.2⟩))
          | (rw [if_neg f13]
             exact (lpX8_ro1 σ s _ 0 _ ⟨by decide, by decide⟩).imp (fun r σ2 h => ⟨h.1, _, h.2⟩))
          | exact (lpX8_ro1 σ s _ 0 _ ⟨by decide, by decide⟩).imp (fun r σ2 h => ⟨h.1, _, h.2⟩)
      · exact absurd h37 (by decide)
  · skip
    first
      | have b6 := ((pNum_in (σ := tx σ) (pl := p) ⟨by omega, by omega⟩).2 f6).1
      | have b6 := (pNum_in (σ := tx σ) (pl := p) (x := 0) ⟨by omega, by omega⟩).1 f6
      | skip
    refine q_iastore (n := 10) dX8_readsVertex_9 rfl mi15 ⟨by omega, by omega⟩ ?_
    rw [om_sr]
    refine q_aload_n (n := 11) dX8_readsVertex_10 rfl rfl ?_
    refine q_bipush (n := 13) dX8_readsVertex_11 rfl (k := ?_)
    refine q_v1U (n := 16) dX8_readsVertex_13 rfl (zX8_takes1 44 σ s _ _ hI ⟨by omega, by omega⟩) vX8_takes lX8_341 rfl rfl mi0 rfl ?_
    first
      | have b13 := tT_lt (σ := tx σ) (p := q6) (by rw [f13]; decide)
      | skip
    refine q_aload_n (n := 17) dX8_readsVertex_16 rfl rfl ?_
    refine q_getR (n := 20) dX8_readsVertex_17 rfl fX8_66 mi0 rfl ?_
    refine q_iconst (n := 21) dX8_readsVertex_20 rfl (k := ?_)
    refine q_aload_n (n := 22) dX8_readsVertex_21 rfl rfl ?_
    refine q_v0D (n := 25) dX8_readsVertex_22 rfl (zX8_number1 σ s _ _ hI ⟨by omega, by omega⟩) vX8_number lX8_344 rfl rfl mi0 rfl ?_
    first
      | have b22 := ((pNum_in (σ := tx σ) (pl := q6 + 1) ⟨by omega, by omega⟩).2 f22).1
      | have b22 := (pNum_in (σ := tx σ) (pl := q6 + 1) (x := 0) ⟨by omega, by omega⟩).1 f22
      | skip
    refine q_iastore (n := 26) dX8_readsVertex_25 rfl mi15 ⟨by omega, by omega⟩ ?_
    rw [om_sr]
    refine q_aload_n (n := 27) dX8_readsVertex_26 rfl rfl ?_
    refine q_getR (n := 30) dX8_readsVertex_27 rfl fX8_66 mi0 rfl ?_
    refine q_iconst (n := 31) dX8_readsVertex_30 rfl (k := ?_)
    refine q_iconst (n := 32) dX8_readsVertex_31 rfl (k := ?_)
    refine q_iastore (n := 33) dX8_readsVertex_32 rfl mi15 ⟨by omega, by omega⟩ ?_
    rw [om_sr]
    refine q_aload_n (n := 34) dX8_readsVertex_33 rfl rfl ?_
    refine q_getIE (1) (kI := 30) (n := 37) (by decide) dX8_readsVertex_34 rfl fX8_331 mi0 rfl rfl om_tw ?_
    refine q_if_ne (n := 40) (t := 73) dX8_readsVertex_37 rfl (by decide) (fun h37 => ?_) (fun h37 => ?_)
    · skip
      first
        | rw [om_sr]
        | skip
      refine q_aload_n (n := 74) dX8_readsVertex_73 rfl rfl ?_
      refine q_getR (n := 77) dX8_readsVertex_74 rfl fX8_66 mi0 rfl ?_
      refine q_iconst (n := 78) dX8_readsVertex_77 rfl (k := ?_)
      refine q_iconst (n := 79) dX8_readsVertex_78 rfl (k := ?_)
      refine q_iastore (n := 80) dX8_readsVertex_79 rfl mi15 ⟨by omega, by omega⟩ ?_
      rw [om_sr]
      refine q_iconst (n := 81) dX8_readsVertex_80 rfl (k := ?_)
      refine q_istore_n (n := 82) dX8_readsVertex_81 rfl (Nat.le_of_ble_eq_true rfl) (q_s1_1 rfl) ?_
      unfold vxR
      rw [f6]
      dsimp only
      first
        | (rw [if_pos f13, f22]
           dsimp only
           rw [pTies_po, if_pos h50, if_pos f69]
           rw [ud_ud]
           exact lpX8_ro0 σ s hI _ 3 0 _ 0 (by decide) (by decide) ⟨by omega, by omega⟩)
        | (rw [if_pos f13, f22]
           dsimp only
           rw [pTies_po, if_pos h50, if_neg f69]
           exact (lpX8_ro1 σ s _ 0 _ ⟨by decide, by decide⟩).imp (fun r σ2 h => ⟨h.1, _, h.2⟩))
        | (rw [if_pos f13, f22]
           dsimp only
           rw [pTies_po, if_neg h50]
           exact lpX8_ro0 σ s hI _ 3 0 _ 0 (by decide) (by decide) ⟨by omega, by omega⟩)
        | (rw [if_pos f13, f22]
           exact (lpX8_ro1 σ s _ 0 _ ⟨by decide, by decide⟩).imp (fun r σ2 h => ⟨h.1, _, h.2⟩))
        | (rw [if_neg f13]
           exact (lpX8_ro1 σ s _ 0 _ ⟨by decide, by decide⟩).imp (fun r σ2 h => ⟨h.1, _, h.2⟩))
        | exact (lpX8_ro1 σ s _ 0 _ ⟨by decide, by decide⟩).imp (fun r σ2 h => ⟨h.1, _, h.2⟩)
    · exact absurd h37 (by decide)
set_option maxRecDepth 100000 in
theorem lpX8_nu1 (σ s : q_S) (c p : Int) (hI : IM σ) (hp : 0 ≤ p ∧ p ≤ 1000) : ∀ (n : Nat) (i : Int) (rd : Int → Int), (n : Int) + i = 6 → 0 ≤ i → q_WP mX8_statement shM 88 [some (.inr (.inr 0)), some (.inl c), some (.inl i)] [] (ovM σ (tm s p 1 rd)) (fun r σ' => r = some (.inl c) ∧ ∃ rd', σ' = (ovM σ (tm s p 1 rd'))) := by
  intro n
  induction n with
  | zero =>
    intro i rd hi h0
    refine q_iload_n (n := 89) dX8_statement_88 rfl rfl ?_
    refine q_bipush (n := 91) dX8_statement_89 rfl (k := ?_)
    refine q_icmp_ge (n := 94) (t := 120) dX8_statement_91 rfl (by decide) (fun h91 => ?_) (fun h91 => ?_)
    · skip
      refine q_go (t := 156) dX8_statement_120 (by decide) ?_
      refine q_iload_n (n := 157) dX8_statement_156 rfl rfl ?_
      refine q_iret dX8_statement_157 rfl (fun _ => rfl) ?_
      exact ⟨rfl, _, rfl⟩
    · exact absurd h91 (by omega)
  | succ n ih =>
    intro i rd hi h0
    refine q_iload_n (n := 89) dX8_statement_88 rfl rfl ?_
    refine q_bipush (n := 91) dX8_statement_89 rfl (k := ?_)
    refine q_icmp_ge (n := 94) (t := 120) dX8_statement_91 rfl (by decide) (fun h91 => ?_) (fun h91 => ?_)
    · exact absurd h91 (by omega)
    · skip
      refine q_iload_n (n := 95) dX8_statement_94 rfl rfl ?_
      refine q_if_le (n := 98) (t := 104) dX8_statement_95 rfl (by decide) (fun h95 => ?_) (fun h95 => ?_)
      · skip
        refine q_aload_n (n := 105) dX8_statement_104 rfl rfl ?_
        refine q_getR (n := 108) dX8_statement_105 rfl fX8_66 mi0 rfl ?_
        refine q_iload_n (n := 109) dX8_statement_108 rfl rfl ?_
        refine q_aload_n (n := 110) dX8_statement_109 rfl rfl ?_
        refine q_v0D (n := 113) dX8_statement_110 rfl (zX8_number1 σ s _ _ hI hp) vX8_number lX8_344 rfl rfl mi0 rfl ?_
        refine q_iastore (n := 114) dX8_statement_113 rfl mi15 ⟨by omega, by omega⟩ ?_
        rw [om_sr]
        refine q_iinc (n := 117) dX8_statement_114 rfl (Nat.le_of_ble_eq_true rfl) rfl (q_nwid ⟨by omega, by omega⟩) (q_s1_s (q_s1_1 rfl)) ?_
        refine q_go (t := 88) dX8_statement_117 (by decide) ?_
        exact ih (i + 1) _ (by omega) (by omega)
      · skip
        refine q_aload_n (n := 99) dX8_statement_98 rfl rfl ?_
        refine q_bipush (n := 101) dX8_statement_99 rfl (k := ?_)
        refine q_v1U (n := 104) dX8_statement_101 rfl (zX8_takes1 44 σ s _ _ hI hp) vX8_takes lX8_341 rfl rfl mi0 rfl ?_
        refine q_aload_n (n := 105) dX8_statement_104 rfl rfl ?_
        refine q_getR (n := 108) dX8_statement_105 rfl fX8_66 mi0 rfl ?_
        refine q_iload_n (n := 109) dX8_statement_108 rfl rfl ?_
        refine q_aload_n (n := 110) dX8_statement_109 rfl rfl ?_
        refine q_v0D (n := 113) dX8_statement_110 rfl (zX8_number1 σ s _ _ hI hp) vX8_number lX8_344 rfl rfl mi0 rfl ?_
        refine q_iastore (n := 114) dX8_statement_113 rfl mi15 ⟨by omega, by omega⟩ ?_
        rw [om_sr]
        refine q_iinc (n := 117) dX8_statement_114 rfl (Nat.le_of_ble_eq_true rfl) rfl (q_nwid ⟨by omega, by omega⟩) (q_s1_s (q_s1_1 rfl)) ?_
        refine q_go (t := 88) dX8_statement_117 (by decide) ?_
        exact ih (i + 1) _ (by omega) (by omega)
set_option maxHeartbeats 1000000 in
set_option maxRecDepth 100000 in
theorem lpX8_nu0 (σ s : q_S) (c : Int) (hI : IM σ) : ∀ (n : Nat) (i p : Int) (rd : Int → Int), (n : Int) + i = 6 → 0 ≤ i → (0 ≤ p ∧ p ≤ σ 0 28) → q_WP mX8_statement shM 88 [some (.inr (.inr 0)), some (.inl c), some (.inl i)] [] (ovM σ (tm s p 0 rd)) (fun r σ' => r = some (.inl c) ∧ stR (pNums (tT (tx σ)) n i p rd) σ s σ') := by
  have hl := hI.2.2.2.2.1
  have e1 := @tx_1 σ
  intro n
  induction n with
  | zero =>
    intro i p rd hi h0 hp
    refine q_iload_n (n := 89) dX8_statement_88 rfl rfl ?_
    refine q_bipush (n := 91) dX8_statement_89 rfl (k := ?_)
    refine q_icmp_ge (n := 94) (t := 120) dX8_statement_91 rfl (by decide) (fun h91 => ?_) (fun h91 => ?_)
    · skip
      refine q_go (t := 156) dX8_statement_120 (by decide) ?_
      refine q_iload_n (n := 157) dX8_statement_156 rfl rfl ?_
      refine q_iret dX8_statement_157 rfl (fun _ => rfl) ?_
      exact ⟨rfl, rfl⟩
    · exact absurd h91 (by omega)
  | succ n ih =>
    intro i p rd hi h0 hp
    rw [pNums]
    refine q_iload_n (n := 89) dX8_statement_88 rfl rfl ?_
    refine q_bipush (n := 91) dX8_statement_89 rfl (k := ?_)
    refine q_icmp_ge (n := 94) (t := 120) dX8_statement_91 rfl (by decide) (fun h91 => ?_) (fun h91 => ?_)
    · exact absurd h91 (by omega)
    · skip
      refine q_iload_n (n := 95) dX8_statement_94 rfl rfl ?_
      refine q_if_le (n := 98) (t := 104) dX8_statement_95 rfl (by decide) (fun h95 => ?_) (fun h95 => ?_)
      · rw [if_pos (by omega)]
        first
          | (have b101 := tT_lt (σ := tx σ) (p := p) (by rw [f101]; decide)
             rw [if_pos f101])
          | rw [if_neg f101]
          | skip
        refine q_aload_n (n := 105) dX8_statement_104 rfl rfl ?_
        refine q_getR (n := 108) dX8_statement_105 rfl fX8_66 mi0 rfl ?_
        refine q_iload_n (n := 109) dX8_statement_108 rfl rfl ?_
        refine q_aload_n (n := 110) dX8_statement_109 rfl rfl ?_
        refine q_v0 (n := 113) dX8_statement_110 rfl (zX8_number0 σ s _ _ hI ⟨by omega, by omega⟩) vX8_number lX8_344 rfl rfl mi0 rfl (fun v110 σ110 h110 => ?_)
        rcases h110 with ⟨x110, q110, f110, rfl, rfl⟩ | ⟨q110, f110, rfl, rfl⟩
        · skip
          first
            | have b110 := ((pNum_in (σ := tx σ) (pl := p + 1) ⟨by omega, by omega⟩).2 f110).1
            | have b110 := ((pNum_in (σ := tx σ) (pl := p) ⟨by omega, by omega⟩).2 f110).1
            | have b110 := (pNum_in (σ := tx σ) (pl := p + 1) (x := 0) ⟨by omega, by omega⟩).1 f110
            | have b110 := (pNum_in (σ := tx σ) (pl := p) (x := 0) ⟨by omega, by omega⟩).1 f110
            | skip
          refine q_iastore (n := 114) dX8_statement_113 rfl mi15 ⟨by omega, by omega⟩ ?_
          rw [om_sr]
          refine q_iinc (n := 117) dX8_statement_114 rfl (Nat.le_of_ble_eq_true rfl) rfl (q_nwid ⟨by omega, by omega⟩) (q_s1_s (q_s1_1 rfl)) ?_
          refine q_go (t := 88) dX8_statement_117 (by decide) ?_
          first
            | (rw [f110]
               exact ih (i + 1) _ _ (by omega) (by omega) ⟨by omega, by omega⟩)
            | (rw [f110]
               exact lpX8_nu1 σ s c _ hI ⟨by omega, by omega⟩ n (i + 1) _ (by omega) (by omega))
            | exact lpX8_nu1 σ s c _ hI ⟨by omega, by omega⟩ n (i + 1) _ (by omega) (by omega)
        · skip
          first
            | have b110 := ((pNum_in (σ := tx σ) (pl := p + 1) ⟨by omega, by omega⟩).2 f110).1
            | have b110 := ((pNum_in (σ := tx σ) (pl := p) ⟨by omega, by omega⟩).2 f110).1
            | have b110 := (pNum_in (σ := tx σ) (pl := p + 1) (x := 0) ⟨by omega, by omega⟩).1 f110
            | have b110 := (pNum_in (σ := tx σ) (pl := p) (x := 0) ⟨by omega, by omega⟩).1 f110
            | skip
          refine q_iastore (n := 114) dX8_statement_113 rfl mi15 ⟨by omega, by omega⟩ ?_
          rw [om_sr]
          refine q_iinc (n := 117) dX8_statement_114 rfl (Nat.le_of_ble_eq_true rfl) rfl (q_nwid ⟨by omega, by omega⟩) (q_s1_s (q_s1_1 rfl)) ?_
          refine q_go (t := 88) dX8_statement_117 (by decide) ?_
          first
            | (rw [f110]
               exact ih (i + 1) _ _ (by omega) (by omega) ⟨by omega, by omega⟩)
            | (rw [f110]
               exact lpX8_nu1 σ s c _ hI ⟨by omega, by omega⟩ n (i + 1) _ (by omega) (by omega))
            | exact lpX8_nu1 σ s c _ hI ⟨by omega, by omega⟩ n (i + 1) _ (by omega) (by omega)
      · rw [if_neg (by omega)]
        refine q_aload_n (n := 99) dX8_statement_98 rfl rfl ?_
        refine q_bipush (n := 101) dX8_statement_99 rfl (k := ?_)
        refine q_v1W (n := 104) dX8_statement_101 rfl (zX8_takes0 44 σ s _ _ hI ⟨by omega, by omega⟩) vX8_takes lX8_341 rfl rfl mi0 rfl (fun σ101 h101 => ?_)
        obtain ⟨f101, rfl⟩ | ⟨f101, rfl⟩ := h101
        · skip
          first
            | (have b101 := tT_lt (σ := tx σ) (p := p) (by rw [f101]; decide)
               rw [if_pos f101])
            | rw [if_neg f101]
            | skip
          refine q_aload_n (n := 105) dX8_statement_104 rfl rfl ?_
          refine q_getR (n := 108) dX8_statement_105 rfl fX8_66 mi0 rfl ?_
          refine q_iload_n (n := 109) dX8_statement_108 rfl rfl ?_
          refine q_aload_n (n := 110) dX8_statement_109 rfl rfl ?_
          refine q_v0 (n := 113) dX8_statement_110 rfl (zX8_number0 σ s _ _ hI ⟨by omega, by omega⟩) vX8_number lX8_344 rfl rfl mi0 rfl (fun v110 σ110 h110 => ?_)
          rcases h110 with ⟨x110, q110, f110, rfl, rfl⟩ | ⟨q110, f110, rfl, rfl⟩
          · skip
            first
              | have b110 := ((pNum_in (σ := tx σ) (pl := p + 1) ⟨by omega, by omega⟩).2 f110).1
              | have b110 := ((pNum_in (σ := tx σ) (pl := p) ⟨by omega, by omega⟩).2 f110).1
              | have b110 := (pNum_in (σ := tx σ) (pl := p + 1) (x := 0) ⟨by omega, by omega⟩).1 f110
              | have b110 := (pNum_in (σ := tx σ) (pl := p) (x := 0) ⟨by omega, by omega⟩).1 f110
              | skip
            refine q_iastore (n := 114) dX8_statement_113 rfl mi15 ⟨by omega, by omega⟩ ?_
            rw [om_sr]
            refine q_iinc (n := 117) dX8_statement_114 rfl (Nat.le_of_ble_eq_true rfl) rfl (q_nwid ⟨by omega, by omega⟩) (q_s1_s (q_s1_1 rfl)) ?_
            refine q_go (t := 88) dX8_statement_117 (by decide) ?_
            first
              | (rw [f110]
                 exact ih (i + 1) _ _ (by omega) (by omega) ⟨by omega, by omega⟩)
              | (rw [f110]
                 exact lpX8_nu1 σ s c _ hI ⟨by omega, by omega⟩ n (i + 1) _ (by omega) (by omega))
              | exact lpX8_nu1 σ s c _ hI ⟨by omega, by omega⟩ n (i + 1) _ (by omega) (by omega)
          · skip
            first
              | have b110 := ((pNum_in (σ := tx σ) (pl := p + 1) ⟨by omega, by omega⟩).2 f110).1
              | have b110 := ((pNum_in (σ := tx σ) (pl := p) ⟨by omega, by omega⟩).2 f110).1
              | have b110 := (pNum_in (σ := tx σ) (pl := p + 1) (x := 0) ⟨by omega, by omega⟩).1 f110
              | have b110 := (pNum_in (σ := tx σ) (pl := p) (x := 0) ⟨by omega, by omega⟩).1 f110
              | skip
            refine q_iastore (n := 114) dX8_statement_113 rfl mi15 ⟨by omega, by omega⟩ ?_
            rw [om_sr]
            refine q_iinc (n := 117) dX8_statement_114 rfl (Nat.le_of_ble_eq_true rfl) rfl (q_nwid ⟨by omega, by omega⟩) (q_s1_s (q_s1_1 rfl)) ?_
            refine q_go (t := 88) dX8_statement_117 (by decide) ?_
            first
              | (rw [f110]
                 exact ih (i + 1) _ _ (by omega) (by omega) ⟨by omega, by omega⟩)
              | (rw [f110]
                 exact lpX8_nu1 σ s c _ hI ⟨by omega, by omega⟩ n (i + 1) _ (by omega) (by omega))
              | exact lpX8_nu1 σ s c _ hI ⟨by omega, by omega⟩ n (i + 1) _ (by omega) (by omega)
        · skip
          first
            | (have b101 := tT_lt (σ := tx σ) (p := p) (by rw [f101]; decide)
               rw [if_pos f101])
            | rw [if_neg f101]
            | skip
          refine q_aload_n (n := 105) dX8_statement_104 rfl rfl ?_
          refine q_getR (n := 108) dX8_statement_105 rfl fX8_66 mi0 rfl ?_
          refine q_iload_n (n := 109) dX8_statement_108 rfl rfl ?_
          refine q_aload_n (n := 110) dX8_statement_109 rfl rfl ?_
          refine q_v0D (n := 113) dX8_statement_110 rfl (zX8_number1 σ s _ _ hI ⟨by omega, by omega⟩) vX8_number lX8_344 rfl rfl mi0 rfl ?_
          first
            | have b110 := ((pNum_in (σ := tx σ) (pl := p + 1) ⟨by omega, by omega⟩).2 f110).1
            | have b110 := ((pNum_in (σ := tx σ) (pl := p) ⟨by omega, by omega⟩).2 f110).1
            | have b110 := (pNum_in (σ := tx σ) (pl := p + 1) (x := 0) ⟨by omega, by omega⟩).1 f110
            | have b110 := (pNum_in (σ := tx σ) (pl := p) (x := 0) ⟨by omega, by omega⟩).1 f110
            | skip
          refine q_iastore (n := 114) dX8_statement_113 rfl mi15 ⟨by omega, by omega⟩ ?_
          rw [om_sr]
          refine q_iinc (n := 117) dX8_statement_114 rfl (Nat.le_of_ble_eq_true rfl) rfl (q_nwid ⟨by omega, by omega⟩) (q_s1_s (q_s1_1 rfl)) ?_
          refine q_go (t := 88) dX8_statement_117 (by decide) ?_
          first
            | (rw [f110]
               exact ih (i + 1) _ _ (by omega) (by omega) ⟨by omega, by omega⟩)
            | (rw [f110]
               exact lpX8_nu1 σ s c _ hI ⟨by omega, by omega⟩ n (i + 1) _ (by omega) (by omega))
            | exact lpX8_nu1 σ s c _ hI ⟨by omega, by omega⟩ n (i + 1) _ (by omega) (by omega)
