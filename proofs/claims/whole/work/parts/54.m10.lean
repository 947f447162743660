set_option maxRecDepth 100000 in
theorem lpX8_tn (σ : q_S) (hn : 0 ≤ σ 1 1 ∧ σ 1 1 ≤ 8) : ∀ (n : Nat) (i : Int) (s : q_S), (n : Int) + i = σ 1 1 → 0 ≤ i → (∀ j, 0 ≤ j → j < i → s 10 j = σ 1 (51 + j)) → q_WP mX8_tellsNamed shM 2 [some (.inr (.inr 0)), some (.inl i)] [] (ovM σ s) (fun r σ' => r = none ∧ (∃ s', σ' = ovM σ s' ∧ (∀ j, 0 ≤ j → j < σ 1 1 → s' 10 j = σ 1 (51 + j)) ∧ ∀ c x : Int, c ≠ 10 → s' c x = s c x)) := by
  intro n
  induction n with
  | zero =>
    intro i s hi h0 hj
    refine q_iload_n (n := 3) dX8_tellsNamed_2 rfl rfl ?_
    refine q_aload_n (n := 4) dX8_tellsNamed_3 rfl rfl ?_
    refine q_getR (n := 7) dX8_tellsNamed_4 rfl fX8_23 mi0 rfl ?_
    refine q_iconst (n := 8) dX8_tellsNamed_7 rfl (k := ?_)
    refine q_ialoadF (σ 1) (n := 9) dX8_tellsNamed_8 rfl mi1 ⟨by omega, by omega⟩ rfl ?_
    refine q_icmp_ge (n := 12) (t := 29) dX8_tellsNamed_9 rfl (by decide) (fun h9 => ?_) (fun h9 => ?_)
    · skip
      refine q_vret dX8_tellsNamed_29 rfl ?_
      exact ⟨rfl, s, rfl, fun j a b => hj j a (by omega), fun _ _ _ => rfl⟩
    · exact absurd h9 (by omega)
  | succ n ih =>
    intro i s hi h0 hj
    refine q_iload_n (n := 3) dX8_tellsNamed_2 rfl rfl ?_
    refine q_aload_n (n := 4) dX8_tellsNamed_3 rfl rfl ?_
    refine q_getR (n := 7) dX8_tellsNamed_4 rfl fX8_23 mi0 rfl ?_
    refine q_iconst (n := 8) dX8_tellsNamed_7 rfl (k := ?_)
    refine q_ialoadF (σ 1) (n := 9) dX8_tellsNamed_8 rfl mi1 ⟨by omega, by omega⟩ rfl ?_
    refine q_icmp_ge (n := 12) (t := 29) dX8_tellsNamed_9 rfl (by decide) (fun h9 => ?_) (fun h9 => ?_)
    · exact absurd h9 (by omega)
    · skip
      refine q_aload_n (n := 13) dX8_tellsNamed_12 rfl rfl ?_
      refine q_getR (n := 16) dX8_tellsNamed_13 rfl fX8_51 mi0 rfl ?_
      refine q_iload_n (n := 17) dX8_tellsNamed_16 rfl rfl ?_
      refine q_aload_n (n := 18) dX8_tellsNamed_17 rfl rfl ?_
      refine q_iload_n (n := 19) dX8_tellsNamed_18 rfl rfl ?_
      refine q_v1D (n := 22) dX8_tellsNamed_19 rfl (zX8_kindOf _ σ _ (by omega)) vX8_kindOf lX8_164 rfl rfl mi0 rfl ?_
      refine q_iastore (n := 23) dX8_tellsNamed_22 rfl mi10 ⟨by omega, by omega⟩ ?_
      refine q_iinc (n := 26) dX8_tellsNamed_23 rfl (Nat.le_of_ble_eq_true rfl) rfl (q_nwid ⟨by omega, by omega⟩) (q_s1_1 rfl) ?_
      refine q_go (t := 2) dX8_tellsNamed_26 (by decide) ?_
      rw [om_up rfl]
      refine (ih (i + 1) _ (by omega) (by omega) (fun j a b => ?_)).imp ?_
      · by_cases e : j = i
        · subst e
          exact q_up_s
        · rw [q_up_n (fun z => e z.2)]
          exact hj j a (by omega)
      · rintro r σ2 ⟨h1, s2, h2, h3, h4⟩
        exact ⟨h1, s2, h2, h3, fun c x hc => by rw [h4 c x hc, q_up_n (fun z => hc z.1)]⟩
set_option maxRecDepth 100000 in
theorem zX8_tellsNamed (σ s : q_S) (hI : IM σ) : q_Ct mX8_tellsNamed shM [.inr (.inr 0)] (ovM σ s) (fun r σ' => r = none ∧ (∃ s', σ' = ovM σ s' ∧ (∀ j, 0 ≤ j → j < σ 1 1 → s' 10 j = σ 1 (51 + j)) ∧ ∀ c x : Int, c ≠ 10 → s' c x = s c x)) := by
  refine q_ct 1 (by decide) rfl rfl ?_
  show q_WP mX8_tellsNamed shM 0 [some (.inr (.inr 0)), none] [] (ovM σ s) _
  have hn := hI.nt
  refine q_iconst (n := 1) dX8_tellsNamed_0 rfl (k := ?_)
  refine q_istore_n (n := 2) dX8_tellsNamed_1 rfl (Nat.le_of_ble_eq_true rfl) (q_s1_1 rfl) ?_
  exact lpX8_tn σ hn (σ 1 1).toNat 0 s (by omega) (by decide) (fun j a b => by omega)
theorem lawB_3 {L : Int} {E : Int → Int} : lawB L E = true ↔ (E 0 = 0 ∧ E 1 = 0) ∧ (L = 2 ∨ E 2 = 0 ∧ (L = 1 → -1 ≤ E 3 ∧ E 3 ≤ 1) ∧ (L ≠ 1 → E 3 = 0)) := by
  rw [lawB_t]
  unfold lawful
  generalize E 3 = e
  by_cases h : L = 1
  · rw [if_pos h]
    split <;> omega
  · rw [if_neg h]
    split <;> omega
def nmK (s : q_S) (nt a b : Int) : Prop := ∀ t : Int, 0 ≤ t → t < nt → (t = a ∨ q_and (q_shr b t) 1 = 1) → 0 ≤ s 10 t ∧ s 10 t < 12
set_option maxRecDepth 100000 in
theorem lpX8_lo0 (σ s : q_S) (v u w : Int) (hI : IM σ) (hv : 0 ≤ v ∧ v < σ 1 2) (hn : 0 ≤ σ 1 1 ∧ σ 1 1 ≤ 8) (hvv : 0 ≤ σ 1 2 ∧ σ 1 2 ≤ 4) (hnm : nmK s (σ 1 1) (pM (σ 1) 6 v) (pM (σ 1) 7 v)) (hw : w = -1 ∨ 0 ≤ w ∧ w < 12) : ∀ (n : Nat) (i e : Int), (n : Int) + i = σ 1 1 → 0 ≤ i → (-1 - i ≤ e ∧ e ≤ 1 + i) → q_WP mX8_leftOver shM 37 [some (.inr (.inr 0)), some (.inr (.inr 2)), some (.inl v), some (.inl u), some (.inl w), some (.inl e), some (.inl i)] [] (ovM σ s) (fun r σ' => r = some (.inl (e - bsN (fun t => num (s 10 t) 0) (pM (σ 1) 7 v) n i - (if w = -1 then 0 else num w 0))) ∧ σ' = ovM σ s) := by
  intro n
  induction n with
  | zero =>
    intro i e hi h0 he
    rw [bsN, Int.sub_zero]
    refine q_iload (n := 39) dX8_leftOver_37 rfl rfl ?_
    refine q_aload_n (n := 40) dX8_leftOver_39 rfl rfl ?_
    refine q_getR (n := 43) dX8_leftOver_40 rfl fX8_23 mi0 rfl ?_
    refine q_iconst (n := 44) dX8_leftOver_43 rfl (k := ?_)
    refine q_ialoadF (σ 1) (n := 45) dX8_leftOver_44 rfl mi1 ⟨by omega, by omega⟩ rfl ?_
    refine q_icmp_ge (n := 48) (t := 88) dX8_leftOver_45 rfl (by decide) (fun h45 => ?_) (fun h45 => ?_)
    · skip
      refine q_iload (n := 90) dX8_leftOver_88 rfl rfl ?_
      refine q_if_lt (n := 93) (t := 105) dX8_leftOver_90 rfl (by decide) (fun h90 => ?_) (fun h90 => ?_)
      · skip
        refine q_iload (n := 107) dX8_leftOver_105 rfl rfl ?_
        refine q_iret dX8_leftOver_107 rfl (fun _ => rfl) ?_
        refine ⟨?_, rfl⟩
        first
          | (rw [if_pos (by omega), Int.sub_zero]; done)
          | (rw [if_neg (by omega)]; congr 2; omega)
      · skip
        refine q_iload (n := 95) dX8_leftOver_93 rfl rfl ?_
        have hwk : 0 ≤ w ∧ w < 12 := by omega
        have hnb := num_bd (k := w) (j := 0) hwk (by decide)
        unfold q_bd at hnb
        refine q_aload_n (n := 96) dX8_leftOver_95 rfl rfl ?_
        refine q_iload (n := 98) dX8_leftOver_96 rfl rfl ?_
        refine q_ialoadF (σ 2) (n := 99) dX8_leftOver_98 rfl mi2 ⟨by omega, by omega⟩ rfl ?_
        refine q_topI (num w 0 + 1) (hI.2.2.1 (w) hwk.1 hwk.2).1.1 ?_
        refine q_isubS (n := 100) dX8_leftOver_99 rfl ⟨by omega, by omega⟩ ?_
        refine q_iconst (n := 101) dX8_leftOver_100 rfl (k := ?_)
        refine q_iaddS (n := 102) dX8_leftOver_101 rfl ⟨by omega, by omega⟩ ?_
        refine q_go (t := 107) dX8_leftOver_102 (by decide) ?_
        refine q_iret dX8_leftOver_107 rfl (fun _ => rfl) ?_
        refine ⟨?_, rfl⟩
        first
          | (rw [if_pos (by omega), Int.sub_zero]; done)
          | (rw [if_neg (by omega)]; congr 2; omega)
    · exact absurd h45 (by omega)
  | succ n ih =>
    intro i e hi h0 he
    rw [bsN]
    refine q_iload (n := 39) dX8_leftOver_37 rfl rfl ?_
    refine q_aload_n (n := 40) dX8_leftOver_39 rfl rfl ?_
    refine q_getR (n := 43) dX8_leftOver_40 rfl fX8_23 mi0 rfl ?_
    refine q_iconst (n := 44) dX8_leftOver_43 rfl (k := ?_)
    refine q_ialoadF (σ 1) (n := 45) dX8_leftOver_44 rfl mi1 ⟨by omega, by omega⟩ rfl ?_
    refine q_icmp_ge (n := 48) (t := 88) dX8_leftOver_45 rfl (by decide) (fun h45 => ?_) (fun h45 => ?_)
    · exact absurd h45 (by omega)
    · skip
      refine q_iload (n := 50) dX8_leftOver_48 rfl rfl ?_
      refine q_aload_n (n := 51) dX8_leftOver_50 rfl rfl ?_
      refine q_iload_n (n := 52) dX8_leftOver_51 rfl rfl ?_
      refine q_iconst (n := 53) dX8_leftOver_52 rfl (k := ?_)
      refine q_v2D (n := 56) dX8_leftOver_53 rfl (zX8_vP3 _ σ _ ⟨by omega, by omega⟩) vX8_vertexAt lX8_185 rfl rfl mi0 rfl ?_
      refine q_iload (n := 58) dX8_leftOver_56 rfl rfl ?_
      refine q_c2D (n := 61) dX8_leftOver_58 rfl (zX8_has _ _ _ _) vX8_has lX8_170 rfl rfl ?_
      refine q_if_eq (n := 64) (t := 78) dX8_leftOver_61 rfl (by decide) (fun h61 => ?_) (fun h61 => ?_)
      · have h61 := q_b0.mp h61
        refine q_iconst (n := 79) dX8_leftOver_78 rfl (k := ?_)
        refine q_isubS (n := 80) dX8_leftOver_79 rfl ⟨by omega, by omega⟩ ?_
        refine q_istore (n := 82) dX8_leftOver_80 rfl (Nat.le_of_ble_eq_true rfl) (q_s1_s (q_s1_s (q_s1_s (q_s1_s (q_s1_1 rfl))))) ?_
        refine q_iinc (n := 85) dX8_leftOver_82 rfl (Nat.le_of_ble_eq_true rfl) rfl (q_nwid ⟨by omega, by omega⟩) (q_s1_s (q_s1_s (q_s1_s (q_s1_s (q_s1_s (q_s1_1 rfl)))))) ?_
        refine q_go (t := 37) dX8_leftOver_85 (by decide) ?_
        first
          | (rw [if_neg h61, Int.zero_add]
             have h := ih (i + 1) (e - 0) (by omega) (by omega) (by omega)
             rw [Int.sub_zero] at h ⊢
             exact h)
          | (rw [if_pos h61]
             have h := ih (i + 1) (e - (num (s 10 i) 0 + 1 - 1)) (by omega) (by omega) (by omega)
             refine h.imp (fun r σ2 h2 => ⟨h2.1.trans ?_, h2.2⟩)
             congr 2
             omega)
      · have h61 := q_b1.mp h61
        have hki := hnm i h0 (by omega) (Or.inr h61)
        have hnb := num_bd (k := s 10 i) (j := 0) hki (by decide)
        unfold q_bd at hnb
        refine q_aload_n (n := 65) dX8_leftOver_64 rfl rfl ?_
        refine q_aload_n (n := 66) dX8_leftOver_65 rfl rfl ?_
        refine q_getR (n := 69) dX8_leftOver_66 rfl fX8_51 mi0 rfl ?_
        refine q_iload (n := 71) dX8_leftOver_69 rfl rfl ?_
        refine q_ialoadE (s 10 i) (n := 72) dX8_leftOver_71 rfl mi10 ⟨by omega, by omega⟩ rfl ?_
        refine q_ialoadF (σ 2) (n := 73) dX8_leftOver_72 rfl mi2 ⟨by omega, by omega⟩ rfl ?_
        refine q_topI (num (s 10 i) 0 + 1) (hI.2.2.1 (s 10 i) hki.1 hki.2).1.1 ?_
        refine q_iconst (n := 74) dX8_leftOver_73 rfl (k := ?_)
        refine q_isubS (n := 75) dX8_leftOver_74 rfl ⟨by omega, by omega⟩ ?_
        refine q_go (t := 79) dX8_leftOver_75 (by decide) ?_
        refine q_isubS (n := 80) dX8_leftOver_79 rfl ⟨by omega, by omega⟩ ?_
        refine q_istore (n := 82) dX8_leftOver_80 rfl (Nat.le_of_ble_eq_true rfl) (q_s1_s (q_s1_s (q_s1_s (q_s1_s (q_s1_1 rfl))))) ?_
        refine q_iinc (n := 85) dX8_leftOver_82 rfl (Nat.le_of_ble_eq_true rfl) rfl (q_nwid ⟨by omega, by omega⟩) (q_s1_s (q_s1_s (q_s1_s (q_s1_s (q_s1_s (q_s1_1 rfl)))))) ?_
        refine q_go (t := 37) dX8_leftOver_85 (by decide) ?_
        first
          | (rw [if_neg h61, Int.zero_add]
             have h := ih (i + 1) (e - 0) (by omega) (by omega) (by omega)
             rw [Int.sub_zero] at h ⊢
             exact h)
          | (rw [if_pos h61]
             have h := ih (i + 1) (e - (num (s 10 i) 0 + 1 - 1)) (by omega) (by omega) (by omega)
             refine h.imp (fun r σ2 h2 => ⟨h2.1.trans ?_, h2.2⟩)
             congr 2
             omega)
set_option maxRecDepth 100000 in
theorem zX8_leftOver0 (v u w : Int) (σ s : q_S) (hI : IM σ) (hv : 0 ≤ v ∧ v < σ 1 2) (hnm : nmK s (σ 1 1) (pM (σ 1) 6 v) (pM (σ 1) 7 v)) (hw : w = -1 ∨ 0 ≤ w ∧ w < 12) (hu : (pM (σ 1) 6 v) = -1 → 0 ≤ u ∧ u < 12) : q_Ct mX8_leftOver shM [.inr (.inr 0), .inr (.inr 2), .inl v, .inl u, .inl w] (ovM σ s) (fun r σ' => r = some (.inl (loT (s 10) (σ 1 1) (pM (σ 1) 6 v) (pM (σ 1) 7 v) u w 0)) ∧ σ' = ovM σ s) := by
  refine q_ct 2 (by decide) rfl rfl ?_
  show q_WP mX8_leftOver shM 0 [some (.inr (.inr 0)), some (.inr (.inr 2)), some (.inl v), some (.inl u), some (.inl w), none, none] [] (ovM σ s) _
  have hn := hI.nt
  have hvv := hI.nv
  have hvt := hI.tie hv
  have hmc := mem_C hn hvt.2.2
  have ht1 := hvt.2.2.1
  refine q_aload_n (n := 1) dX8_leftOver_0 rfl rfl ?_
  refine q_iload_n (n := 2) dX8_leftOver_1 rfl rfl ?_
  refine q_iconst (n := 3) dX8_leftOver_2 rfl (k := ?_)
  refine q_v2D (n := 6) dX8_leftOver_3 rfl (zX8_vP2 _ σ _ ⟨by omega, by omega⟩) vX8_vertexAt lX8_185 rfl rfl mi0 rfl ?_
  refine q_if_lt (n := 9) (t := 27) dX8_leftOver_6 rfl (by decide) (fun h6 => ?_) (fun h6 => ?_)
  · have ha : (pM (σ 1) 6 v) = -1 := by omega
    have hku := hu ha
    have hnb := num_bd (k := u) (j := 0) hku (by decide)
    unfold q_bd at hnb
    refine q_aload_n (n := 28) dX8_leftOver_27 rfl rfl ?_
    refine q_iload_n (n := 29) dX8_leftOver_28 rfl rfl ?_
    refine q_ialoadF (σ 2) (n := 30) dX8_leftOver_29 rfl mi2 ⟨by omega, by omega⟩ rfl ?_
    refine q_topI (num u 0 + 1) (hI.2.2.1 (u) hku.1 hku.2).1.1 ?_
    refine q_iconst (n := 31) dX8_leftOver_30 rfl (k := ?_)
    refine q_isubS (n := 32) dX8_leftOver_31 rfl ⟨by omega, by omega⟩ ?_
    refine q_istore (n := 34) dX8_leftOver_32 rfl (Nat.le_of_ble_eq_true rfl) (q_s1_s (q_s1_s (q_s1_s (q_s1_s (q_s1_1 rfl))))) ?_
    refine q_iconst (n := 35) dX8_leftOver_34 rfl (k := ?_)
    refine q_istore (n := 37) dX8_leftOver_35 rfl (Nat.le_of_ble_eq_true rfl) (q_s1_s (q_s1_s (q_s1_s (q_s1_s (q_s1_s (q_s1_1 rfl)))))) ?_
    refine (lpX8_lo0 σ s v u w hI hv hn hvv hnm hw (σ 1 1).toNat 0 _ (by omega) (by decide) (by omega)).imp (fun r σ2 h2 => ⟨h2.1.trans ?_, h2.2⟩)
    unfold loT
    first
      | (rw [if_pos ha, Int.add_sub_cancel]; done)
      | (rw [if_neg ha, Int.add_sub_cancel]; done)
  · have ha : ¬ (pM (σ 1) 6 v) = -1 := by omega
    have hka := hnm (pM (σ 1) 6 v) (by omega) (by omega) (Or.inl rfl)
    have hnb := num_bd (k := s 10 (pM (σ 1) 6 v)) (j := 0) hka (by decide)
    unfold q_bd at hnb
    refine q_aload_n (n := 10) dX8_leftOver_9 rfl rfl ?_
    refine q_aload_n (n := 11) dX8_leftOver_10 rfl rfl ?_
    refine q_getR (n := 14) dX8_leftOver_11 rfl fX8_51 mi0 rfl ?_
    refine q_aload_n (n := 15) dX8_leftOver_14 rfl rfl ?_
    refine q_iload_n (n := 16) dX8_leftOver_15 rfl rfl ?_
    refine q_iconst (n := 17) dX8_leftOver_16 rfl (k := ?_)
    refine q_v2D (n := 20) dX8_leftOver_17 rfl (zX8_vP2 _ σ _ ⟨by omega, by omega⟩) vX8_vertexAt lX8_185 rfl rfl mi0 rfl ?_
    refine q_ialoadE (s 10 (pM (σ 1) 6 v)) (n := 21) dX8_leftOver_20 rfl mi10 ⟨by omega, by omega⟩ rfl ?_
    refine q_ialoadF (σ 2) (n := 22) dX8_leftOver_21 rfl mi2 ⟨by omega, by omega⟩ rfl ?_
    refine q_topI (num (s 10 (pM (σ 1) 6 v)) 0 + 1) (hI.2.2.1 (s 10 (pM (σ 1) 6 v)) hka.1 hka.2).1.1 ?_
    refine q_iconst (n := 23) dX8_leftOver_22 rfl (k := ?_)
    refine q_isubS (n := 24) dX8_leftOver_23 rfl ⟨by omega, by omega⟩ ?_
    refine q_go (t := 32) dX8_leftOver_24 (by decide) ?_
    refine q_istore (n := 34) dX8_leftOver_32 rfl (Nat.le_of_ble_eq_true rfl) (q_s1_s (q_s1_s (q_s1_s (q_s1_s (q_s1_1 rfl))))) ?_
    refine q_iconst (n := 35) dX8_leftOver_34 rfl (k := ?_)
    refine q_istore (n := 37) dX8_leftOver_35 rfl (Nat.le_of_ble_eq_true rfl) (q_s1_s (q_s1_s (q_s1_s (q_s1_s (q_s1_s (q_s1_1 rfl)))))) ?_
    refine (lpX8_lo0 σ s v u w hI hv hn hvv hnm hw (σ 1 1).toNat 0 _ (by omega) (by decide) (by omega)).imp (fun r σ2 h2 => ⟨h2.1.trans ?_, h2.2⟩)
    unfold loT
    first
      | (rw [if_pos ha, Int.add_sub_cancel]; done)
      | (rw [if_neg ha, Int.add_sub_cancel]; done)
set_option maxRecDepth 100000 in
theorem lpX8_lo1 (σ s : q_S) (v u w : Int) (hI : IM σ) (hv : 0 ≤ v ∧ v < σ 1 2) (hn : 0 ≤ σ 1 1 ∧ σ 1 1 ≤ 8) (hvv : 0 ≤ σ 1 2 ∧ σ 1 2 ≤ 4) (hnm : nmK s (σ 1 1) (pM (σ 1) 6 v) (pM (σ 1) 7 v)) (hw : w = -1 ∨ 0 ≤ w ∧ w < 12) : ∀ (n : Nat) (i e : Int), (n : Int) + i = σ 1 1 → 0 ≤ i → (-1 - i ≤ e ∧ e ≤ 1 + i) → q_WP mX8_leftOver shM 37 [some (.inr (.inr 0)), some (.inr (.inr 3)), some (.inl v), some (.inl u), some (.inl w), some (.inl e), some (.inl i)] [] (ovM σ s) (fun r σ' => r = some (.inl (e - bsN (fun t => num (s 10 t) 1) (pM (σ 1) 7 v) n i - (if w = -1 then 0 else num w 1))) ∧ σ' = ovM σ s) := by
  intro n
  induction n with
  | zero =>
    intro i e hi h0 he
    rw [bsN, Int.sub_zero]
    refine q_iload (n := 39) dX8_leftOver_37 rfl rfl ?_
    refine q_aload_n (n := 40) dX8_leftOver_39 rfl rfl ?_
    refine q_getR (n := 43) dX8_leftOver_40 rfl fX8_23 mi0 rfl ?_
    refine q_iconst (n := 44) dX8_leftOver_43 rfl (k := ?_)
    refine q_ialoadF (σ 1) (n := 45) dX8_leftOver_44 rfl mi1 ⟨by omega, by omega⟩ rfl ?_
    refine q_icmp_ge (n := 48) (t := 88) dX8_leftOver_45 rfl (by decide) (fun h45 => ?_) (fun h45 => ?_)
    · skip
      refine q_iload (n := 90) dX8_leftOver_88 rfl rfl ?_
      refine q_if_lt (n := 93) (t := 105) dX8_leftOver_90 rfl (by decide) (fun h90 => ?_) (fun h90 => ?_)
      · skip
        refine q_iload (n := 107) dX8_leftOver_105 rfl rfl ?_
        refine q_iret dX8_leftOver_107 rfl (fun _ => rfl) ?_
        refine ⟨?_, rfl⟩
        first
          | (rw [if_pos (by omega), Int.sub_zero]; done)
          | (rw [if_neg (by omega)]; congr 2; omega)
      · skip
        refine q_iload (n := 95) dX8_leftOver_93 rfl rfl ?_
        have hwk : 0 ≤ w ∧ w < 12 := by omega
        have hnb := num_bd (k := w) (j := 1) hwk (by decide)
        unfold q_bd at hnb
        refine q_aload_n (n := 96) dX8_leftOver_95 rfl rfl ?_
        refine q_iload (n := 98) dX8_leftOver_96 rfl rfl ?_
        refine q_ialoadF (σ 3) (n := 99) dX8_leftOver_98 rfl mi3 ⟨by omega, by omega⟩ rfl ?_
        refine q_topI (num w 1 + 1) (hI.2.2.1 (w) hwk.1 hwk.2).1.2.1 ?_
        refine q_isubS (n := 100) dX8_leftOver_99 rfl ⟨by omega, by omega⟩ ?_
        refine q_iconst (n := 101) dX8_leftOver_100 rfl (k := ?_)
        refine q_iaddS (n := 102) dX8_leftOver_101 rfl ⟨by omega, by omega⟩ ?_
        refine q_go (t := 107) dX8_leftOver_102 (by decide) ?_
        refine q_iret dX8_leftOver_107 rfl (fun _ => rfl) ?_
        refine ⟨?_, rfl⟩
        first
          | (rw [if_pos (by omega), Int.sub_zero]; done)
          | (rw [if_neg (by omega)]; congr 2; omega)
    · exact absurd h45 (by omega)
  | succ n ih =>
    intro i e hi h0 he
    rw [bsN]
    refine q_iload (n := 39) dX8_leftOver_37 rfl rfl ?_
    refine q_aload_n (n := 40) dX8_leftOver_39 rfl rfl ?_
    refine q_getR (n := 43) dX8_leftOver_40 rfl fX8_23 mi0 rfl ?_
    refine q_iconst (n := 44) dX8_leftOver_43 rfl (k := ?_)
    refine q_ialoadF (σ 1) (n := 45) dX8_leftOver_44 rfl mi1 ⟨by omega, by omega⟩ rfl ?_
    refine q_icmp_ge (n := 48) (t := 88) dX8_leftOver_45 rfl (by decide) (fun h45 => ?_) (fun h45 => ?_)
    · exact absurd h45 (by omega)
    · skip
      refine q_iload (n := 50) dX8_leftOver_48 rfl rfl ?_
      refine q_aload_n (n := 51) dX8_leftOver_50 rfl rfl ?_
      refine q_iload_n (n := 52) dX8_leftOver_51 rfl rfl ?_
      refine q_iconst (n := 53) dX8_leftOver_52 rfl (k := ?_)
      refine q_v2D (n := 56) dX8_leftOver_53 rfl (zX8_vP3 _ σ _ ⟨by omega, by omega⟩) vX8_vertexAt lX8_185 rfl rfl mi0 rfl ?_
      refine q_iload (n := 58) dX8_leftOver_56 rfl rfl ?_
      refine q_c2D (n := 61) dX8_leftOver_58 rfl (zX8_has _ _ _ _) vX8_has lX8_170 rfl rfl ?_
      refine q_if_eq (n := 64) (t := 78) dX8_leftOver_61 rfl (by decide) (fun h61 => ?_) (fun h61 => ?_)
      · have h61 := q_b0.mp h61
        refine q_iconst (n := 79) dX8_leftOver_78 rfl (k := ?_)
        refine q_isubS (n := 80) dX8_leftOver_79 rfl ⟨by omega, by omega⟩ ?_
        refine q_istore (n := 82) dX8_leftOver_80 rfl (Nat.le_of_ble_eq_true rfl) (q_s1_s (q_s1_s (q_s1_s (q_s1_s (q_s1_1 rfl))))) ?_
        refine q_iinc (n := 85) dX8_leftOver_82 rfl (Nat.le_of_ble_eq_true rfl) rfl (q_nwid ⟨by omega, by omega⟩) (q_s1_s (q_s1_s (q_s1_s (q_s1_s (q_s1_s (q_s1_1 rfl)))))) ?_
        refine q_go (t := 37) dX8_leftOver_85 (by decide) ?_
        first
          | (rw [if_neg h61, Int.zero_add]
             have h := ih (i + 1) (e - 0) (by omega) (by omega) (by omega)
             rw [Int.sub_zero] at h ⊢
             exact h)
          | (rw [if_pos h61]
             have h := ih (i + 1) (e - (num (s 10 i) 1 + 1 - 1)) (by omega) (by omega) (by omega)
             refine h.imp (fun r σ2 h2 => ⟨h2.1.trans ?_, h2.2⟩)
             congr 2
             omega)
      · have h61 := q_b1.mp h61
        have hki := hnm i h0 (by omega) (Or.inr h61)
        have hnb := num_bd (k := s 10 i) (j := 1) hki (by decide)
        unfold q_bd at hnb
        refine q_aload_n (n := 65) dX8_leftOver_64 rfl rfl ?_
        refine q_aload_n (n := 66) dX8_leftOver_65 rfl rfl ?_
        refine q_getR (n := 69) dX8_leftOver_66 rfl fX8_51 mi0 rfl ?_
        refine q_iload (n := 71) dX8_leftOver_69 rfl rfl ?_
        refine q_ialoadE (s 10 i) (n := 72) dX8_leftOver_71 rfl mi10 ⟨by omega, by omega⟩ rfl ?_
        refine q_ialoadF (σ 3) (n := 73) dX8_leftOver_72 rfl mi3 ⟨by omega, by omega⟩ rfl ?_
        refine q_topI (num (s 10 i) 1 + 1) (hI.2.2.1 (s 10 i) hki.1 hki.2).1.2.1 ?_
        refine q_iconst (n := 74) dX8_leftOver_73 rfl (k := ?_)
        refine q_isubS (n := 75) dX8_leftOver_74 rfl ⟨by omega, by omega⟩ ?_
        refine q_go (t := 79) dX8_leftOver_75 (by decide) ?_
        refine q_isubS (n := 80) dX8_leftOver_79 rfl ⟨by omega, by omega⟩ ?_
        refine q_istore (n := 82) dX8_leftOver_80 rfl (Nat.le_of_ble_eq_true rfl) (q_s1_s (q_s1_s (q_s1_s (q_s1_s (q_s1_1 rfl))))) ?_
        refine q_iinc (n := 85) dX8_leftOver_82 rfl (Nat.le_of_ble_eq_true rfl) rfl (q_nwid ⟨by omega, by omega⟩) (q_s1_s (q_s1_s (q_s1_s (q_s1_s (q_s1_s (q_s1_1 rfl)))))) ?_
        refine q_go (t := 37) dX8_leftOver_85 (by decide) ?_
        first
          | (rw [if_neg h61, Int.zero_add]
             have h := ih (i + 1) (e - 0) (by omega) (by omega) (by omega)
             rw [Int.sub_zero] at h ⊢
             exact h)
          | (rw [if_pos h61]
             have h := ih (i + 1) (e - (num (s 10 i) 1 + 1 - 1)) (by omega) (by omega) (by omega)
             refine h.imp (fun r σ2 h2 => ⟨h2.1.trans ?_, h2.2⟩)
             congr 2
             omega)
set_option maxRecDepth 100000 in
theorem zX8_leftOver1 (v u w : Int) (σ s : q_S) (hI : IM σ) (hv : 0 ≤ v ∧ v < σ 1 2) (hnm : nmK s (σ 1 1) (pM (σ 1) 6 v) (pM (σ 1) 7 v)) (hw : w = -1 ∨ 0 ≤ w ∧ w < 12) (hu : (pM (σ 1) 6 v) = -1 → 0 ≤ u ∧ u < 12) : q_Ct mX8_leftOver shM [.inr (.inr 0), .inr (.inr 3), .inl v, .inl u, .inl w] (ovM σ s) (fun r σ' => r = some (.inl (loT (s 10) (σ 1 1) (pM (σ 1) 6 v) (pM (σ 1) 7 v) u w 1)) ∧ σ' = ovM σ s) := by
  refine q_ct 2 (by decide) rfl rfl ?_
  show q_WP mX8_leftOver shM 0 [some (.inr (.inr 0)), some (.inr (.inr 3)), some (.inl v), some (.inl u), some (.inl w), none, none] [] (ovM σ s) _
  have hn := hI.nt
  have hvv := hI.nv
  have hvt := hI.tie hv
  have hmc := mem_C hn hvt.2.2
  have ht1 := hvt.2.2.1
  refine q_aload_n (n := 1) dX8_leftOver_0 rfl rfl ?_
  refine q_iload_n (n := 2) dX8_leftOver_1 rfl rfl ?_
  refine q_iconst (n := 3) dX8_leftOver_2 rfl (k := ?_)
  refine q_v2D (n := 6) dX8_leftOver_3 rfl (zX8_vP2 _ σ _ ⟨by omega, by omega⟩) vX8_vertexAt lX8_185 rfl rfl mi0 rfl ?_
  refine q_if_lt (n := 9) (t := 27) dX8_leftOver_6 rfl (by decide) (fun h6 => ?_) (fun h6 => ?_)
  · have ha : (pM (σ 1) 6 v) = -1 := by omega
    have hku := hu ha
    have hnb := num_bd (k := u) (j := 1) hku (by decide)
    unfold q_bd at hnb
    refine q_aload_n (n := 28) dX8_leftOver_27 rfl rfl ?_
    refine q_iload_n (n := 29) dX8_leftOver_28 rfl rfl ?_
    refine q_ialoadF (σ 3) (n := 30) dX8_leftOver_29 rfl mi3 ⟨by omega, by omega⟩ rfl ?_
    refine q_topI (num u 1 + 1) (hI.2.2.1 (u) hku.1 hku.2).1.2.1 ?_
    refine q_iconst (n := 31) dX8_leftOver_30 rfl (k := ?_)
    refine q_isubS (n := 32) dX8_leftOver_31 rfl ⟨by omega, by omega⟩ ?_
    refine q_istore (n := 34) dX8_leftOver_32 rfl (Nat.le_of_ble_eq_true rfl) (q_s1_s (q_s1_s (q_s1_s (q_s1_s (q_s1_1 rfl))))) ?_
    refine q_iconst (n := 35) dX8_leftOver_34 rfl (k := ?_)
    refine q_istore (n := 37) dX8_leftOver_35 rfl (Nat.le_of_ble_eq_true rfl) (q_s1_s (q_s1_s (q_s1_s (q_s1_s (q_s1_s (q_s1_1 rfl)))))) ?_
    refine (lpX8_lo1 σ s v u w hI hv hn hvv hnm hw (σ 1 1).toNat 0 _ (by omega) (by decide) (by omega)).imp (fun r σ2 h2 => ⟨h2.1.trans ?_, h2.2⟩)
    unfold loT
    first
      | (rw [if_pos ha, Int.add_sub_cancel]; done)
      | (rw [if_neg ha, Int.add_sub_cancel]; done)
  · have ha : ¬ (pM (σ 1) 6 v) = -1 := by omega
    have hka := hnm (pM (σ 1) 6 v) (by omega) (by omega) (Or.inl rfl)
    have hnb := num_bd (k := s 10 (pM (σ 1) 6 v)) (j := 1) hka (by decide)
    unfold q_bd at hnb
    refine q_aload_n (n := 10) dX8_leftOver_9 rfl rfl ?_
    refine q_aload_n (n := 11) dX8_leftOver_10 rfl rfl ?_
    refine q_getR (n := 14) dX8_leftOver_11 rfl fX8_51 mi0 rfl ?_
    refine q_aload_n (n := 15) dX8_leftOver_14 rfl rfl ?_
    refine q_iload_n (n := 16) dX8_leftOver_15 rfl rfl ?_
    refine q_iconst (n := 17) dX8_leftOver_16 rfl (k := ?_)
    refine q_v2D (n := 20) dX8_leftOver_17 rfl (zX8_vP2 _ σ _ ⟨by omega, by omega⟩) vX8_vertexAt lX8_185 rfl rfl mi0 rfl ?_
    refine q_ialoadE (s 10 (pM (σ 1) 6 v)) (n := 21) dX8_leftOver_20 rfl mi10 ⟨by omega, by omega⟩ rfl ?_
    refine q_ialoadF (σ 3) (n := 22) dX8_leftOver_21 rfl mi3 ⟨by omega, by omega⟩ rfl ?_
    refine q_topI (num (s 10 (pM (σ 1) 6 v)) 1 + 1) (hI.2.2.1 (s 10 (pM (σ 1) 6 v)) hka.1 hka.2).1.2.1 ?_
    refine q_iconst (n := 23) dX8_leftOver_22 rfl (k := ?_)
    refine q_isubS (n := 24) dX8_leftOver_23 rfl ⟨by omega, by omega⟩ ?_
    refine q_go (t := 32) dX8_leftOver_24 (by decide) ?_
    refine q_istore (n := 34) dX8_leftOver_32 rfl (Nat.le_of_ble_eq_true rfl) (q_s1_s (q_s1_s (q_s1_s (q_s1_s (q_s1_1 rfl))))) ?_
    refine q_iconst (n := 35) dX8_leftOver_34 rfl (k := ?_)
    refine q_istore (n := 37) dX8_leftOver_35 rfl (Nat.le_of_ble_eq_true rfl) (q_s1_s (q_s1_s (q_s1_s (q_s1_s (q_s1_s (q_s1_1 rfl)))))) ?_
    refine (lpX8_lo1 σ s v u w hI hv hn hvv hnm hw (σ 1 1).toNat 0 _ (by omega) (by decide) (by omega)).imp (fun r σ2 h2 => ⟨h2.1.trans ?_, h2.2⟩)
    unfold loT
    first
      | (rw [if_pos ha, Int.add_sub_cancel]; done)
      | (rw [if_neg ha, Int.add_sub_cancel]; done)
set_option maxRecDepth 100000 in
theorem lpX8_lo2 (σ s : q_S) (v u w : Int) (hI : IM σ) (hv : 0 ≤ v ∧ v < σ 1 2) (hn : 0 ≤ σ 1 1 ∧ σ 1 1 ≤ 8) (hvv : 0 ≤ σ 1 2 ∧ σ 1 2 ≤ 4) (hnm : nmK s (σ 1 1) (pM (σ 1) 6 v) (pM (σ 1) 7 v)) (hw : w = -1 ∨ 0 ≤ w ∧ w < 12) : ∀ (n : Nat) (i e : Int), (n : Int) + i = σ 1 1 → 0 ≤ i → (-1 - i ≤ e ∧ e ≤ 1 + i) → q_WP mX8_leftOver shM 37 [some (.inr (.inr 0)), some (.inr (.inr 4)), some (.inl v), some (.inl u), some (.inl w), some (.inl e), some (.inl i)] [] (ovM σ s) (fun r σ' => r = some (.inl (e - bsN (fun t => num (s 10 t) 2) (pM (σ 1) 7 v) n i - (if w = -1 then 0 else num w 2))) ∧ σ' = ovM σ s) := by
  intro n
  induction n with
  | zero =>
    intro i e hi h0 he
    rw [bsN, Int.sub_zero]
    refine q_iload (n := 39) dX8_leftOver_37 rfl rfl ?_
    refine q_aload_n (n := 40) dX8_leftOver_39 rfl rfl ?_
    refine q_getR (n := 43) dX8_leftOver_40 rfl fX8_23 mi0 rfl ?_
    refine q_iconst (n := 44) dX8_leftOver_43 rfl (k := ?_)
    refine q_ialoadF (σ 1) (n := 45) dX8_leftOver_44 rfl mi1 ⟨by omega, by omega⟩ rfl ?_
    refine q_icmp_ge (n := 48) (t := 88) dX8_leftOver_45 rfl (by decide) (fun h45 => ?_) (fun h45 => ?_)
    · skip
      refine q_iload (n := 90) dX8_leftOver_88 rfl rfl ?_
      refine q_if_lt (n := 93) (t := 105) dX8_leftOver_90 rfl (by decide) (fun h90 => ?_) (fun h90 => ?_)
      · skip
        refine q_iload (n := 107) dX8_leftOver_105 rfl rfl ?_
        refine q_iret dX8_leftOver_107 rfl (fun _ => rfl) ?_
        refine ⟨?_, rfl⟩
        first
          | (rw [if_pos (by omega), Int.sub_zero]; done)
          | (rw [if_neg (by omega)]; congr 2; omega)
      · skip
        refine q_iload (n := 95) dX8_leftOver_93 rfl rfl ?_
        have hwk : 0 ≤ w ∧ w < 12 := by omega
        have hnb := num_bd (k := w) (j := 2) hwk (by decide)
        unfold q_bd at hnb
        refine q_aload_n (n := 96) dX8_leftOver_95 rfl rfl ?_
        refine q_iload (n := 98) dX8_leftOver_96 rfl rfl ?_
        refine q_ialoadF (σ 4) (n := 99) dX8_leftOver_98 rfl mi4 ⟨by omega, by omega⟩ rfl ?_
        refine q_topI (num w 2 + 1) (hI.2.2.1 (w) hwk.1 hwk.2).1.2.2 ?_
        refine q_isubS (n := 100) dX8_leftOver_99 rfl ⟨by omega, by omega⟩ ?_
        refine q_iconst (n := 101) dX8_leftOver_100 rfl (k := ?_)
        refine q_iaddS (n := 102) dX8_leftOver_101 rfl ⟨by omega, by omega⟩ ?_
        refine q_go (t := 107) dX8_leftOver_102 (by decide) ?_
        refine q_iret dX8_leftOver_107 rfl (fun _ => rfl) ?_
        refine ⟨?_, rfl⟩
        first
          | (rw [if_pos (by omega), Int.sub_zero]; done)
          | (rw [if_neg (by omega)]; congr 2; omega)
    · exact absurd h45 (by omega)
  | succ n ih =>
    intro i e hi h0 he
    rw [bsN]
    refine q_iload (n := 39) dX8_leftOver_37 rfl rfl ?_
    refine q_aload_n (n := 40) dX8_leftOver_39 rfl rfl ?_
    refine q_getR (n := 43) dX8_leftOver_40 rfl fX8_23 mi0 rfl ?_
    refine q_iconst (n := 44) dX8_leftOver_43 rfl (k := ?_)
    refine q_ialoadF (σ 1) (n := 45) dX8_leftOver_44 rfl mi1 ⟨by omega, by omega⟩ rfl ?_
    refine q_icmp_ge (n := 48) (t := 88) dX8_leftOver_45 rfl (by decide) (fun h45 => ?_) (fun h45 => ?_)
    · exact absurd h45 (by omega)
    · skip
      refine q_iload (n := 50) dX8_leftOver_48 rfl rfl ?_
      refine q_aload_n (n := 51) dX8_leftOver_50 rfl rfl ?_
      refine q_iload_n (n := 52) dX8_leftOver_51 rfl rfl ?_
      refine q_iconst (n := 53) dX8_leftOver_52 rfl (k := ?_)
      refine q_v2D (n := 56) dX8_leftOver_53 rfl (zX8_vP3 _ σ _ ⟨by omega, by omega⟩) vX8_vertexAt lX8_185 rfl rfl mi0 rfl ?_
      refine q_iload (n := 58) dX8_leftOver_56 rfl rfl ?_
      refine q_c2D (n := 61) dX8_leftOver_58 rfl (zX8_has _ _ _ _) vX8_has lX8_170 rfl rfl ?_
      refine q_if_eq (n := 64) (t := 78) dX8_leftOver_61 rfl (by decide) (fun h61 => ?_) (fun h61 => ?_)
      · have h61 := q_b0.mp h61
        refine q_iconst (n := 79) dX8_leftOver_78 rfl (k := ?_)
        refine q_isubS (n := 80) dX8_leftOver_79 rfl ⟨by omega, by omega⟩ ?_
        refine q_istore (n := 82) dX8_leftOver_80 rfl (Nat.le_of_ble_eq_true rfl) (q_s1_s (q_s1_s (q_s1_s (q_s1_s (q_s1_1 rfl))))) ?_
        refine q_iinc (n := 85) dX8_leftOver_82 rfl (Nat.le_of_ble_eq_true rfl) rfl (q_nwid ⟨by omega, by omega⟩) (q_s1_s (q_s1_s (q_s1_s (q_s1_s (q_s1_s (q_s1_1 rfl)))))) ?_
        refine q_go (t := 37) dX8_leftOver_85 (by decide) ?_
        first
          | (rw [if_neg h61, Int.zero_add]
             have h := ih (i + 1) (e - 0) (by omega) (by omega) (by omega)
             rw [Int.sub_zero] at h ⊢
             exact h)
          | (rw [if_pos h61]
             have h := ih (i + 1) (e - (num (s 10 i) 2 + 1 - 1)) (by omega) (by omega) (by omega)
             refine h.imp (fun r σ2 h2 => ⟨h2.1.trans ?_, h2.2⟩)
             congr 2
             omega)
      · have h61 := q_b1.mp h61
        have hki := hnm i h0 (by omega) (Or.inr h61)
        have hnb := num_bd (k := s 10 i) (j := 2) hki (by decide)
        unfold q_bd at hnb
        refine q_aload_n (n := 65) dX8_leftOver_64 rfl rfl ?_
        refine q_aload_n (n := 66) dX8_leftOver_65 rfl rfl ?_
        refine q_getR (n := 69) dX8_leftOver_66 rfl fX8_51 mi0 rfl ?_
        refine q_iload (n := 71) dX8_leftOver_69 rfl rfl ?_
        refine q_ialoadE (s 10 i) (n := 72) dX8_leftOver_71 rfl mi10 ⟨by omega, by omega⟩ rfl ?_
        refine q_ialoadF (σ 4) (n := 73) dX8_leftOver_72 rfl mi4 ⟨by omega, by omega⟩ rfl ?_
        refine q_topI (num (s 10 i) 2 + 1) (hI.2.2.1 (s 10 i) hki.1 hki.2).1.2.2 ?_
        refine q_iconst (n := 74) dX8_leftOver_73 rfl (k := ?_)
        refine q_isubS (n := 75) dX8_leftOver_74 rfl ⟨by omega, by omega⟩ ?_
        refine q_go (t := 79) dX8_leftOver_75 (by decide) ?_
        refine q_isubS (n := 80) dX8_leftOver_79 rfl ⟨by omega, by omega⟩ ?_
        refine q_istore (n := 82) dX8_leftOver_80 rfl (Nat.le_of_ble_eq_true rfl) (q_s1_s (q_s1_s (q_s1_s (q_s1_s (q_s1_1 rfl))))) ?_
        refine q_iinc (n := 85) dX8_leftOver_82 rfl (Nat.le_of_ble_eq_true rfl) rfl (q_nwid ⟨by omega, by omega⟩) (q_s1_s (q_s1_s (q_s1_s (q_s1_s (q_s1_s (q_s1_1 rfl)))))) ?_
        refine q_go (t := 37) dX8_leftOver_85 (by decide) ?_
        first
          | (rw [if_neg h61, Int.zero_add]
             have h := ih (i + 1) (e - 0) (by omega) (by omega) (by omega)
             rw [Int.sub_zero] at h ⊢
             exact h)
          | (rw [if_pos h61]
             have h := ih (i + 1) (e - (num (s 10 i) 2 + 1 - 1)) (by omega) (by omega) (by omega)
             refine h.imp (fun r σ2 h2 => ⟨h2.1.trans ?_, h2.2⟩)
             congr 2
             omega)
set_option maxRecDepth 100000 in
theorem zX8_leftOver2 (v u w : Int) (σ s : q_S) (hI : IM σ) (hv : 0 ≤ v ∧ v < σ 1 2) (hnm : nmK s (σ 1 1) (pM (σ 1) 6 v) (pM (σ 1) 7 v)) (hw : w = -1 ∨ 0 ≤ w ∧ w < 12) (hu : (pM (σ 1) 6 v) = -1 → 0 ≤ u ∧ u < 12) : q_Ct mX8_leftOver shM [.inr (.inr 0), .inr (.inr 4), .inl v, .inl u, .inl w] (ovM σ s) (fun r σ' => r = some (.inl (loT (s 10) (σ 1 1) (pM (σ 1) 6 v) (pM (σ 1) 7 v) u w 2)) ∧ σ' = ovM σ s) := by
  refine q_ct 2 (by decide) rfl rfl ?_
  show q_WP mX8_leftOver shM 0 [some (.inr (.inr 0)), some (.inr (.inr 4)), some (.inl v), some (.inl u), some (.inl w), none, none] [] (ovM σ s) _
  have hn := hI.nt
  have hvv := hI.nv
  have hvt := hI.tie hv
  have hmc := mem_C hn hvt.2.2
  have ht1 := hvt.2.2.1
  refine q_aload_n (n := 1) dX8_leftOver_0 rfl rfl ?_
  refine q_iload_n (n := 2) dX8_leftOver_1 rfl rfl ?_
  refine q_iconst (n := 3) dX8_leftOver_2 rfl (k := ?_)
  refine q_v2D (n := 6) dX8_leftOver_3 rfl (zX8_vP2 _ σ _ ⟨by omega, by omega⟩) vX8_vertexAt lX8_185 rfl rfl mi0 rfl ?_
  refine q_if_lt (n := 9) (t := 27) dX8_leftOver_6 rfl (by decide) (fun h6 => ?_) (fun h6 => ?_)
  · have ha : (pM (σ 1) 6 v) = -1 := by omega
    have hku := hu ha
    have hnb := num_bd (k := u) (j := 2) hku (by decide)
    unfold q_bd at hnb
    refine q_aload_n (n := 28) dX8_leftOver_27 rfl rfl ?_
    refine q_iload_n (n := 29) dX8_leftOver_28 rfl rfl ?_
    refine q_ialoadF (σ 4) (n := 30) dX8_leftOver_29 rfl mi4 ⟨by omega, by omega⟩ rfl ?_
    refine q_topI (num u 2 + 1) (hI.2.2.1 (u) hku.1 hku.2).1.2.2 ?_
    refine q_iconst (n := 31) dX8_leftOver_30 rfl (k := ?_)
    refine q_isubS (n := 32) dX8_leftOver_31 rfl ⟨by omega, by omega⟩ ?_
    refine q_istore (n := 34) dX8_leftOver_32 rfl (Nat.le_of_ble_eq_true rfl) (q_s1_s (q_s1_s (q_s1_s (q_s1_s (q_s1_1 rfl))))) ?_
    refine q_iconst (n := 35) dX8_leftOver_34 rfl (k := ?_)
    refine q_istore (n := 37) dX8_leftOver_35 rfl (Nat.le_of_ble_eq_true rfl) (q_s1_s (q_s1_s (q_s1_s (q_s1_s (q_s1_s (q_s1_1 rfl)))))) ?_
    refine (lpX8_lo2 σ s v u w hI hv hn hvv hnm hw (σ 1 1).toNat 0 _ (by omega) (by decide) (by omega)).imp (fun r σ2 h2 => ⟨h2.1.trans ?_, h2.2⟩)
    unfold loT
    first
      | (rw [if_pos ha, Int.add_sub_cancel]; done)
      | (rw [if_neg ha, Int.add_sub_cancel]; done)
  · have ha : ¬ (pM (σ 1) 6 v) = -1 := by omega
    have hka := hnm (pM (σ 1) 6 v) (by omega) (by omega) (Or.inl rfl)
    have hnb := num_bd (k := s 10 (pM (σ 1) 6 v)) (j := 2) hka (by decide)
    unfold q_bd at hnb
    refine q_aload_n (n := 10) dX8_leftOver_9 rfl rfl ?_
    refine q_aload_n (n := 11) dX8_leftOver_10 rfl rfl ?_
    refine q_getR (n := 14) dX8_leftOver_11 rfl fX8_51 mi0 rfl ?_
    refine q_aload_n (n := 15) dX8_leftOver_14 rfl rfl ?_
    refine q_iload_n (n := 16) dX8_leftOver_15 rfl rfl ?_
    refine q_iconst (n := 17) dX8_leftOver_16 rfl (k := ?_)
    refine q_v2D (n := 20) dX8_leftOver_17 rfl (zX8_vP2 _ σ _ ⟨by omega, by omega⟩) vX8_vertexAt lX8_185 rfl rfl mi0 rfl ?_
    refine q_ialoadE (s 10 (pM (σ 1) 6 v)) (n := 21) dX8_leftOver_20 rfl mi10 ⟨by omega, by omega⟩ rfl ?_
    refine q_ialoadF (σ 4) (n := 22) dX8_leftOver_21 rfl mi4 ⟨by omega, by omega⟩ rfl ?_
    refine q_topI (num (s 10 (pM (σ 1) 6 v)) 2 + 1) (hI.2.2.1 (s 10 (pM (σ 1) 6 v)) hka.1 hka.2).1.2.2 ?_
    refine q_iconst (n := 23) dX8_leftOver_22 rfl (k := ?_)
    refine q_isubS (n := 24) dX8_leftOver_23 rfl ⟨by omega, by omega⟩ ?_
    refine q_go (t := 32) dX8_leftOver_24 (by decide) ?_
    refine q_istore (n := 34) dX8_leftOver_32 rfl (Nat.le_of_ble_eq_true rfl) (q_s1_s (q_s1_s (q_s1_s (q_s1_s (q_s1_1 rfl))))) ?_
    refine q_iconst (n := 35) dX8_leftOver_34 rfl (k := ?_)
    refine q_istore (n := 37) dX8_leftOver_35 rfl (Nat.le_of_ble_eq_true rfl) (q_s1_s (q_s1_s (q_s1_s (q_s1_s (q_s1_s (q_s1_1 rfl)))))) ?_
    refine (lpX8_lo2 σ s v u w hI hv hn hvv hnm hw (σ 1 1).toNat 0 _ (by omega) (by decide) (by omega)).imp (fun r σ2 h2 => ⟨h2.1.trans ?_, h2.2⟩)
    unfold loT
    first
      | (rw [if_pos ha, Int.add_sub_cancel]; done)
      | (rw [if_neg ha, Int.add_sub_cancel]; done)
set_option maxRecDepth 100000 in
theorem lpX8_lo3 (σ s : q_S) (v u w : Int) (hI : IM σ) (hv : 0 ≤ v ∧ v < σ 1 2) (hn : 0 ≤ σ 1 1 ∧ σ 1 1 ≤ 8) (hvv : 0 ≤ σ 1 2 ∧ σ 1 2 ≤ 4) (hnm : nmK s (σ 1 1) (pM (σ 1) 6 v) (pM (σ 1) 7 v)) (hw : w = -1 ∨ 0 ≤ w ∧ w < 12) : ∀ (n : Nat) (i e : Int), (n : Int) + i = σ 1 1 → 0 ≤ i → (-1 - i ≤ e ∧ e ≤ 1 + i) → q_WP mX8_leftOver shM 37 [some (.inr (.inr 0)), some (.inr (.inr 5)), some (.inl v), some (.inl u), some (.inl w), some (.inl e), some (.inl i)] [] (ovM σ s) (fun r σ' => r = some (.inl (e - bsN (fun t => num (s 10 t) 3) (pM (σ 1) 7 v) n i - (if w = -1 then 0 else num w 3))) ∧ σ' = ovM σ s) := by
  intro n
  induction n with
  | zero =>
    intro i e hi h0 he
    rw [bsN, Int.sub_zero]
    refine q_iload (n := 39) dX8_leftOver_37 rfl rfl ?_
    refine q_aload_n (n := 40) dX8_leftOver_39 rfl rfl ?_
    refine q_getR (n := 43) dX8_leftOver_40 rfl fX8_23 mi0 rfl ?_
    refine q_iconst (n := 44) dX8_leftOver_43 rfl (k := ?_)
    refine q_ialoadF (σ 1) (n := 45) dX8_leftOver_44 rfl mi1 ⟨by omega, by omega⟩ rfl ?_
    refine q_icmp_ge (n := 48) (t := 88) dX8_leftOver_45 rfl (by decide) (fun h45 => ?_) (fun h45 => ?_)
    · skip
      refine q_iload (n := 90) dX8_leftOver_88 rfl rfl ?_
      refine q_if_lt (n := 93) (t := 105) dX8_leftOver_90 rfl (by decide) (fun h90 => ?_) (fun h90 => ?_)
      · skip
        refine q_iload (n := 107) dX8_leftOver_105 rfl rfl ?_
        refine q_iret dX8_leftOver_107 rfl (fun _ => rfl) ?_
        refine ⟨?_, rfl⟩
        first
          | (rw [if_pos (by omega), Int.sub_zero]; done)
          | (rw [if_neg (by omega)]; congr 2; omega)
      · skip
        refine q_iload (n := 95) dX8_leftOver_93 rfl rfl ?_
        have hwk : 0 ≤ w ∧ w < 12 := by omega
        have hnb := num_bd (k := w) (j := 3) hwk (by decide)
        unfold q_bd at hnb
        refine q_aload_n (n := 96) dX8_leftOver_95 rfl rfl ?_
        refine q_iload (n := 98) dX8_leftOver_96 rfl rfl ?_
        refine q_ialoadF (σ 5) (n := 99) dX8_leftOver_98 rfl mi5 ⟨by omega, by omega⟩ rfl ?_
        refine q_topI (num w 3 + 1) (hI.2.2.1 (w) hwk.1 hwk.2).2.1 ?_
        refine q_isubS (n := 100) dX8_leftOver_99 rfl ⟨by omega, by omega⟩ ?_
        refine q_iconst (n := 101) dX8_leftOver_100 rfl (k := ?_)
        refine q_iaddS (n := 102) dX8_leftOver_101 rfl ⟨by omega, by omega⟩ ?_
        refine q_go (t := 107) dX8_leftOver_102 (by decide) ?_
        refine q_iret dX8_leftOver_107 rfl (fun _ => rfl) ?_
        refine ⟨?_, rfl⟩
        first
          | (rw [if_pos (by omega), Int.sub_zero]; done)
          | (rw [if_neg (by omega)]; congr 2; omega)
    · exact absurd h45 (by omega)
  | succ n ih =>
    intro i e hi h0 he
    rw [bsN]
    refine q_iload (n := 39) dX8_leftOver_37 rfl rfl ?_
    refine q_aload_n (n := 40) dX8_leftOver_39 rfl rfl ?_
    refine q_getR (n := 43) dX8_leftOver_40 rfl fX8_23 mi0 rfl ?_
    refine q_iconst (n := 44) dX8_leftOver_43 rfl (k := ?_)
    refine q_ialoadF (σ 1) (n := 45) dX8_leftOver_44 rfl mi1 ⟨by omega, by omega⟩ rfl ?_
    refine q_icmp_ge (n := 48) (t := 88) dX8_leftOver_45 rfl (by decide) (fun h45 => ?_) (fun h45 => ?_)
    · exact absurd h45 (by omega)
    · skip
      refine q_iload (n := 50) dX8_leftOver_48 rfl rfl ?_
      refine q_aload_n (n := 51) dX8_leftOver_50 rfl rfl ?_
      refine q_iload_n (n := 52) dX8_leftOver_51 rfl rfl ?_
      refine q_iconst (n := 53) dX8_leftOver_52 rfl (k := ?_)
      refine q_v2D (n := 56) dX8_leftOver_53 rfl (zX8_vP3 _ σ _ ⟨by omega, by omega⟩) vX8_vertexAt lX8_185 rfl rfl mi0 rfl ?_
      refine q_iload (n := 58) dX8_leftOver_56 rfl rfl ?_
      refine q_c2D (n := 61) dX8_leftOver_58 rfl (zX8_has _ _ _ _) vX8_has lX8_170 rfl rfl ?_
      refine q_if_eq (n := 64) (t := 78) dX8_leftOver_61 rfl (by decide) (fun h61 => ?_) (fun h61 => ?_)
      · have h61 := q_b0.mp h61
        refine q_iconst (n := 79) dX8_leftOver_78 rfl (k := ?_)
        refine q_isubS (n := 80) dX8_leftOver_79 rfl ⟨by omega, by omega⟩ ?_
        refine q_istore (n := 82) dX8_leftOver_80 rfl (Nat.le_of_ble_eq_true rfl) (q_s1_s (q_s1_s (q_s1_s (q_s1_s (q_s1_1 rfl))))) ?_
        refine q_iinc (n := 85) dX8_leftOver_82 rfl (Nat.le_of_ble_eq_true rfl) rfl (q_nwid ⟨by omega, by omega⟩) (q_s1_s (q_s1_s (q_s1_s (q_s1_s (q_s1_s (q_s1_1 rfl)))))) ?_
        refine q_go (t := 37) dX8_leftOver_85 (by decide) ?_
        first
          | (rw [if_neg h61, Int.zero_add]
             have h := ih (i + 1) (e - 0) (by omega) (by omega) (by omega)
             rw [Int.sub_zero] at h ⊢
             exact h)
          | (rw [if_pos h61]
             have h := ih (i + 1) (e - (num (s 10 i) 3 + 1 - 1)) (by omega) (by omega) (by omega)
             refine h.imp (fun r σ2 h2 => ⟨h2.1.trans ?_, h2.2⟩)
             congr 2
             omega)
      · have h61 := q_b1.mp h61
        have hki := hnm i h0 (by omega) (Or.inr h61)
        have hnb := num_bd (k := s 10 i) (j := 3) hki (by decide)
        unfold q_bd at hnb
        refine q_aload_n (n := 65) dX8_leftOver_64 rfl rfl ?_
        refine q_aload_n (n := 66) dX8_leftOver_65 rfl rfl ?_
        refine q_getR (n := 69) dX8_leftOver_66 rfl fX8_51 mi0 rfl ?_
        refine q_iload (n := 71) dX8_leftOver_69 rfl rfl ?_
        refine q_ialoadE (s 10 i) (n := 72) dX8_leftOver_71 rfl mi10 ⟨by omega, by omega⟩ rfl ?_
        refine q_ialoadF (σ 5) (n := 73) dX8_leftOver_72 rfl mi5 ⟨by omega, by omega⟩ rfl ?_
        refine q_topI (num (s 10 i) 3 + 1) (hI.2.2.1 (s 10 i) hki.1 hki.2).2.1 ?_
        refine q_iconst (n := 74) dX8_leftOver_73 rfl (k := ?_)
        refine q_isubS (n := 75) dX8_leftOver_74 rfl ⟨by omega, by omega⟩ ?_
        refine q_go (t := 79) dX8_leftOver_75 (by decide) ?_
        refine q_isubS (n := 80) dX8_leftOver_79 rfl ⟨by omega, by omega⟩ ?_
        refine q_istore (n := 82) dX8_leftOver_80 rfl (Nat.le_of_ble_eq_true rfl) (q_s1_s (q_s1_s (q_s1_s (q_s1_s (q_s1_1 rfl))))) ?_
        refine q_iinc (n := 85) dX8_leftOver_82 rfl (Nat.le_of_ble_eq_true rfl) rfl (q_nwid ⟨by omega, by omega⟩) (q_s1_s (q_s1_s (q_s1_s (q_s1_s (q_s1_s (q_s1_1 rfl)))))) ?_
        refine q_go (t := 37) dX8_leftOver_85 (by decide) ?_
        first
          | (rw [if_neg h61, Int.zero_add]
             have h := ih (i + 1) (e - 0) (by omega) (by omega) (by omega)
             rw [Int.sub_zero] at h ⊢
             exact h)
          | (rw [if_pos h61]
             have h := ih (i + 1) (e - (num (s 10 i) 3 + 1 - 1)) (by omega) (by omega) (by omega)
             refine h.imp (fun r σ2 h2 => ⟨h2.1.trans ?_, h2.2⟩)
             congr 2
             omega)
set_option maxRecDepth 100000 in
theorem zX8_leftOver3 (v u w : Int) (σ s : q_S) (hI : IM σ) (hv : 0 ≤ v ∧ v < σ 1 2) (hnm : nmK s (σ 1 1) (pM (σ 1) 6 v) (pM (σ 1) 7 v)) (hw : w = -1 ∨ 0 ≤ w ∧ w < 12) (hu : (pM (σ 1) 6 v) = -1 → 0 ≤ u ∧ u < 12) : q_Ct mX8_leftOver shM [.inr (.inr 0), .inr (.inr 5), .inl v, .inl u, .inl w] (ovM σ s) (fun r σ' => r = some (.inl (loT (s 10) (σ 1 1) (pM (σ 1) 6 v) (pM (σ 1) 7 v) u w 3)) ∧ σ' = ovM σ s) := by
  refine q_ct 2 (by decide) rfl rfl ?_
  show q_WP mX8_leftOver shM 0 [some (.inr (.inr 0)), some (.inr (.inr 5)), some (.inl v), some (.inl u), some (.inl w), none, none] [] (ovM σ s) _
  have hn := hI.nt
  have hvv := hI.nv
  have hvt := hI.tie hv
  have hmc := mem_C hn hvt.2.2
  have ht1 := hvt.2.2.1
  refine q_aload_n (n := 1) dX8_leftOver_0 rfl rfl ?_
  refine q_iload_n (n := 2) dX8_leftOver_1 rfl rfl ?_
  refine q_iconst (n := 3) dX8_leftOver_2 rfl (k := ?_)
  refine q_v2D (n := 6) dX8_leftOver_3 rfl (zX8_vP2 _ σ _ ⟨by omega, by omega⟩) vX8_vertexAt lX8_185 rfl rfl mi0 rfl ?_
  refine q_if_lt (n := 9) (t := 27) dX8_leftOver_6 rfl (by decide) (fun h6 => ?_) (fun h6 => ?_)
  · have ha : (pM (σ 1) 6 v) = -1 := by omega
    have hku := hu ha
    have hnb := num_bd (k := u) (j := 3) hku (by decide)
    unfold q_bd at hnb
    refine q_aload_n (n := 28) dX8_leftOver_27 rfl rfl ?_
    refine q_iload_n (n := 29) dX8_leftOver_28 rfl rfl ?_
    refine q_ialoadF (σ 5) (n := 30) dX8_leftOver_29 rfl mi5 ⟨by omega, by omega⟩ rfl ?_
    refine q_topI (num u 3 + 1) (hI.2.2.1 (u) hku.1 hku.2).2.1 ?_
    refine q_iconst (n := 31) dX8_leftOver_30 rfl (k := ?_)
    refine q_isubS (n := 32) dX8_leftOver_31 rfl ⟨by omega, by omega⟩ ?_
    refine q_istore (n := 34) dX8_leftOver_32 rfl (Nat.le_of_ble_eq_true rfl) (q_s1_s (q_s1_s (q_s1_s (q_s1_s (q_s1_1 rfl))))) ?_
    refine q_iconst (n := 35) dX8_leftOver_34 rfl (k := ?_)
    refine q_istore (n := 37) dX8_leftOver_35 rfl (Nat.le_of_ble_eq_true rfl) (q_s1_s (q_s1_s (q_s1_s (q_s1_s (q_s1_s (q_s1_1 rfl)))))) ?_
    refine (lpX8_lo3 σ s v u w hI hv hn hvv hnm hw (σ 1 1).toNat 0 _ (by omega) (by decide) (by omega)).imp (fun r σ2 h2 => ⟨h2.1.trans ?_, h2.2⟩)
    unfold loT
    first
      | (rw [if_pos ha, Int.add_sub_cancel]; done)
      | (rw [if_neg ha, Int.add_sub_cancel]; done)
  · have ha : ¬ (pM (σ 1) 6 v) = -1 := by omega
    have hka := hnm (pM (σ 1) 6 v) (by omega) (by omega) (Or.inl rfl)
    have hnb := num_bd (k := s 10 (pM (σ 1) 6 v)) (j := 3) hka (by decide)
    unfold q_bd at hnb
    refine q_aload_n (n := 10) dX8_leftOver_9 rfl rfl ?_
    refine q_aload_n (n := 11) dX8_leftOver_10 rfl rfl ?_
    refine q_getR (n := 14) dX8_leftOver_11 rfl fX8_51 mi0 rfl ?_
    refine q_aload_n (n := 15) dX8_leftOver_14 rfl rfl ?_
    refine q_iload_n (n := 16) dX8_leftOver_15 rfl rfl ?_
    refine q_iconst (n := 17) dX8_leftOver_16 rfl (k := ?_)
    refine q_v2D (n := 20) dX8_leftOver_17 rfl (zX8_vP2 _ σ _ ⟨by omega, by omega⟩) vX8_vertexAt lX8_185 rfl rfl mi0 rfl ?_
    refine q_ialoadE (s 10 (pM (σ 1) 6 v)) (n := 21) dX8_leftOver_20 rfl mi10 ⟨by omega, by omega⟩ rfl ?_
    refine q_ialoadF (σ 5) (n := 22) dX8_leftOver_21 rfl mi5 ⟨by omega, by omega⟩ rfl ?_
    refine q_topI (num (s 10 (pM (σ 1) 6 v)) 3 + 1) (hI.2.2.1 (s 10 (pM (σ 1) 6 v)) hka.1 hka.2).2.1 ?_
    refine q_iconst (n := 23) dX8_leftOver_22 rfl (k := ?_)
    refine q_isubS (n := 24) dX8_leftOver_23 rfl ⟨by omega, by omega⟩ ?_
    refine q_go (t := 32) dX8_leftOver_24 (by decide) ?_
    refine q_istore (n := 34) dX8_leftOver_32 rfl (Nat.le_of_ble_eq_true rfl) (q_s1_s (q_s1_s (q_s1_s (q_s1_s (q_s1_1 rfl))))) ?_
    refine q_iconst (n := 35) dX8_leftOver_34 rfl (k := ?_)
    refine q_istore (n := 37) dX8_leftOver_35 rfl (Nat.le_of_ble_eq_true rfl) (q_s1_s (q_s1_s (q_s1_s (q_s1_s (q_s1_s (q_s1_1 rfl)))))) ?_
    refine (lpX8_lo3 σ s v u w hI hv hn hvv hnm hw (σ 1 1).toNat 0 _ (by omega) (by decide) (by omega)).imp (fun r σ2 h2 => ⟨h2.1.trans ?_, h2.2⟩)
    unfold loT
    first
      | (rw [if_pos ha, Int.add_sub_cancel]; done)
      | (rw [if_neg ha, Int.add_sub_cancel]; done)
set_option maxRecDepth 100000 in
theorem zX8_isHeld (v L u w : Int) (σ s : q_S) (hI : IM σ) (hv : 0 ≤ v ∧ v < σ 1 2) (hnm : nmK s (σ 1 1) (pM (σ 1) 6 v) (pM (σ 1) 7 v)) (hw : w = -1 ∨ 0 ≤ w ∧ w < 12) (hu : (pM (σ 1) 6 v) = -1 → 0 ≤ u ∧ u < 12) : q_Ct mX8_isHeld shM [.inr (.inr 0), .inl v, .inl L, .inl u, .inl w] (ovM σ s) (fun r σ' => r = some (.inl (if lawB L (fun q => loT (s 10) (σ 1 1) (pM (σ 1) 6 v) (pM (σ 1) 7 v) u w q) = true then 1 else 0)) ∧ σ' = ovM σ s) := by
  refine q_ct 1 (by decide) rfl rfl ?_
  show q_WP mX8_isHeld shM 0 [some (.inr (.inr 0)), some (.inl v), some (.inl L), some (.inl u), some (.inl w), none] [] (ovM σ s) _
  refine q_aload_n (n := 1) dX8_isHeld_0 rfl rfl ?_
  refine q_aload_n (n := 2) dX8_isHeld_1 rfl rfl ?_
  refine q_getR (n := 5) dX8_isHeld_2 rfl fX8_27 mi0 rfl ?_
  refine q_iload_n (n := 6) dX8_isHeld_5 rfl rfl ?_
  refine q_iload_n (n := 7) dX8_isHeld_6 rfl rfl ?_
  refine q_iload (n := 9) dX8_isHeld_7 rfl rfl ?_
  refine q_v4D (n := 12) dX8_isHeld_9 rfl (zX8_leftOver0 v _ _ σ s hI hv hnm hw hu) vX8_leftOver lX8_258 rfl rfl mi0 rfl ?_
  refine q_if_ne (n := 15) (t := 30) dX8_isHeld_12 rfl (by decide) (fun h12 => ?_) (fun h12 => ?_)
  · skip
    refine q_iconst (n := 31) dX8_isHeld_30 rfl (k := ?_)
    refine q_iret dX8_isHeld_31 rfl (fun _ => rfl) ?_
    have hl := lawB_3 (L := L) (E := (fun q => loT (s 10) (σ 1 1) (pM (σ 1) 6 v) (pM (σ 1) 7 v) u w q))
    first
      | (refine ⟨q_lf1 (hl.mpr ?_), rfl⟩
         omega)
      | (refine ⟨q_lf0 (fun z => ?_), rfl⟩
         have z := hl.mp z
         omega)
  · skip
    refine q_aload_n (n := 16) dX8_isHeld_15 rfl rfl ?_
    refine q_aload_n (n := 17) dX8_isHeld_16 rfl rfl ?_
    refine q_getR (n := 20) dX8_isHeld_17 rfl fX8_30 mi0 rfl ?_
    refine q_iload_n (n := 21) dX8_isHeld_20 rfl rfl ?_
    refine q_iload_n (n := 22) dX8_isHeld_21 rfl rfl ?_
    refine q_iload (n := 24) dX8_isHeld_22 rfl rfl ?_
    refine q_v4D (n := 27) dX8_isHeld_24 rfl (zX8_leftOver1 v _ _ σ s hI hv hnm hw hu) vX8_leftOver lX8_258 rfl rfl mi0 rfl ?_
    refine q_if_eq (n := 30) (t := 32) dX8_isHeld_27 rfl (by decide) (fun h27 => ?_) (fun h27 => ?_)
    · skip
      refine q_iload_n (n := 33) dX8_isHeld_32 rfl rfl ?_
      refine q_iconst (n := 34) dX8_isHeld_33 rfl (k := ?_)
      refine q_icmp_ne (n := 37) (t := 39) dX8_isHeld_34 rfl (by decide) (fun h34 => ?_) (fun h34 => ?_)
      · skip
        refine q_aload_n (n := 40) dX8_isHeld_39 rfl rfl ?_
        refine q_aload_n (n := 41) dX8_isHeld_40 rfl rfl ?_
        refine q_getR (n := 44) dX8_isHeld_41 rfl fX8_36 mi0 rfl ?_
        refine q_iload_n (n := 45) dX8_isHeld_44 rfl rfl ?_
        refine q_iload_n (n := 46) dX8_isHeld_45 rfl rfl ?_
        refine q_iload (n := 48) dX8_isHeld_46 rfl rfl ?_
        refine q_v4D (n := 51) dX8_isHeld_48 rfl (zX8_leftOver3 v _ _ σ s hI hv hnm hw hu) vX8_leftOver lX8_258 rfl rfl mi0 rfl ?_
        refine q_istore (n := 53) dX8_isHeld_51 rfl (Nat.le_of_ble_eq_true rfl) (q_s1_s (q_s1_s (q_s1_s (q_s1_s (q_s1_1 rfl))))) ?_
        refine q_aload_n (n := 54) dX8_isHeld_53 rfl rfl ?_
        refine q_aload_n (n := 55) dX8_isHeld_54 rfl rfl ?_
        refine q_getR (n := 58) dX8_isHeld_55 rfl fX8_33 mi0 rfl ?_
        refine q_iload_n (n := 59) dX8_isHeld_58 rfl rfl ?_
        refine q_iload_n (n := 60) dX8_isHeld_59 rfl rfl ?_
        refine q_iload (n := 62) dX8_isHeld_60 rfl rfl ?_
        refine q_v4D (n := 65) dX8_isHeld_62 rfl (zX8_leftOver2 v _ _ σ s hI hv hnm hw hu) vX8_leftOver lX8_258 rfl rfl mi0 rfl ?_
        refine q_if_ne (n := 68) (t := 103) dX8_isHeld_65 rfl (by decide) (fun h65 => ?_) (fun h65 => ?_)
        · skip
          refine q_iconst (n := 104) dX8_isHeld_103 rfl (k := ?_)
          refine q_iret dX8_isHeld_104 rfl (fun _ => rfl) ?_
          have hl := lawB_3 (L := L) (E := (fun q => loT (s 10) (σ 1 1) (pM (σ 1) 6 v) (pM (σ 1) 7 v) u w q))
          first
            | (refine ⟨q_lf1 (hl.mpr ?_), rfl⟩
               omega)
            | (refine ⟨q_lf0 (fun z => ?_), rfl⟩
               have z := hl.mp z
               omega)
        · skip
          refine q_iload (n := 70) dX8_isHeld_68 rfl rfl ?_
          refine q_i2l (n := 71) dX8_isHeld_70 rfl ?_
          refine q_iload_n (n := 72) dX8_isHeld_71 rfl rfl ?_
          refine q_iconst (n := 73) dX8_isHeld_72 rfl (k := ?_)
          refine q_icmp_ne (n := 76) (t := 82) dX8_isHeld_73 rfl (by decide) (fun h73 => ?_) (fun h73 => ?_)
          · skip
            refine q_lconst (x := 0) (n := 83) dX8_isHeld_82 rfl (k := ?_)
            refine q_iload_n (n := 84) dX8_isHeld_83 rfl rfl ?_
            refine q_iconst (n := 85) dX8_isHeld_84 rfl (k := ?_)
            refine q_icmp_ne (n := 88) (t := 92) dX8_isHeld_85 rfl (by decide) (fun h85 => ?_) (fun h85 => ?_)
            · skip
              refine q_lconst (x := 0) (n := 93) dX8_isHeld_92 rfl (k := ?_)
              refine q_c3D (n := 96) dX8_isHeld_93 rfl (zX8_in _ _ _ _ _) vX8_in lX8_13 rfl rfl ?_
              refine q_if_eq (n := 99) (t := 103) dX8_isHeld_96 rfl (by decide) (fun h96 => ?_) (fun h96 => ?_)
              · have h96 := q_b0.mp h96
                refine q_iconst (n := 104) dX8_isHeld_103 rfl (k := ?_)
                refine q_iret dX8_isHeld_104 rfl (fun _ => rfl) ?_
                have hl := lawB_3 (L := L) (E := (fun q => loT (s 10) (σ 1 1) (pM (σ 1) 6 v) (pM (σ 1) 7 v) u w q))
                first
                  | (refine ⟨q_lf1 (hl.mpr ?_), rfl⟩
                     omega)
                  | (refine ⟨q_lf0 (fun z => ?_), rfl⟩
                     have z := hl.mp z
                     omega)
              · have h96 := q_b1.mp h96
                refine q_iconst (n := 100) dX8_isHeld_99 rfl (k := ?_)
                refine q_go (t := 104) dX8_isHeld_100 (by decide) ?_
                refine q_iret dX8_isHeld_104 rfl (fun _ => rfl) ?_
                have hl := lawB_3 (L := L) (E := (fun q => loT (s 10) (σ 1 1) (pM (σ 1) 6 v) (pM (σ 1) 7 v) u w q))
                first
                  | (refine ⟨q_lf1 (hl.mpr ?_), rfl⟩
                     omega)
                  | (refine ⟨q_lf0 (fun z => ?_), rfl⟩
                     have z := hl.mp z
                     omega)
            · skip
              refine q_lconst (x := 1) (n := 89) dX8_isHeld_88 rfl (k := ?_)
              refine q_go (t := 93) dX8_isHeld_89 (by decide) ?_
              refine q_c3D (n := 96) dX8_isHeld_93 rfl (zX8_in _ _ _ _ _) vX8_in lX8_13 rfl rfl ?_
              refine q_if_eq (n := 99) (t := 103) dX8_isHeld_96 rfl (by decide) (fun h96 => ?_) (fun h96 => ?_)
              · have h96 := q_b0.mp h96
                refine q_iconst (n := 104) dX8_isHeld_103 rfl (k := ?_)
                refine q_iret dX8_isHeld_104 rfl (fun _ => rfl) ?_
                have hl := lawB_3 (L := L) (E := (fun q => loT (s 10) (σ 1 1) (pM (σ 1) 6 v) (pM (σ 1) 7 v) u w q))
                first
                  | (refine ⟨q_lf1 (hl.mpr ?_), rfl⟩
                     omega)
                  | (refine ⟨q_lf0 (fun z => ?_), rfl⟩
                     have z := hl.mp z
                     omega)
              · have h96 := q_b1.mp h96
                refine q_iconst (n := 100) dX8_isHeld_99 rfl (k := ?_)
                refine q_go (t := 104) dX8_isHeld_100 (by decide) ?_
                refine q_iret dX8_isHeld_104 rfl (fun _ => rfl) ?_
                have hl := lawB_3 (L := L) (E := (fun q => loT (s 10) (σ 1 1) (pM (σ 1) 6 v) (pM (σ 1) 7 v) u w q))
                first
                  | (refine ⟨q_lf1 (hl.mpr ?_), rfl⟩
                     omega)
                  | (refine ⟨q_lf0 (fun z => ?_), rfl⟩
                     have z := hl.mp z
                     omega)
          · skip
            refine q_ldc2 (x := -1) (n := 79) dX8_isHeld_76 rfl kX8_159 (k := ?_)
            refine q_go (t := 83) dX8_isHeld_79 (by decide) ?_
            refine q_iload_n (n := 84) dX8_isHeld_83 rfl rfl ?_
            refine q_iconst (n := 85) dX8_isHeld_84 rfl (k := ?_)
            refine q_icmp_ne (n := 88) (t := 92) dX8_isHeld_85 rfl (by decide) (fun h85 => ?_) (fun h85 => ?_)
            · skip
              refine q_lconst (x := 0) (n := 93) dX8_isHeld_92 rfl (k := ?_)
              refine q_c3D (n := 96) dX8_isHeld_93 rfl (zX8_in _ _ _ _ _) vX8_in lX8_13 rfl rfl ?_
              refine q_if_eq (n := 99) (t := 103) dX8_isHeld_96 rfl (by decide) (fun h96 => ?_) (fun h96 => ?_)
              · have h96 := q_b0.mp h96
                refine q_iconst (n := 104) dX8_isHeld_103 rfl (k := ?_)
                refine q_iret dX8_isHeld_104 rfl (fun _ => rfl) ?_
                have hl := lawB_3 (L := L) (E := (fun q => loT (s 10) (σ 1 1) (pM (σ 1) 6 v) (pM (σ 1) 7 v) u w q))
                first
                  | (refine ⟨q_lf1 (hl.mpr ?_), rfl⟩
                     omega)
                  | (refine ⟨q_lf0 (fun z => ?_), rfl⟩
                     have z := hl.mp z
                     omega)
              · have h96 := q_b1.mp h96
                refine q_iconst (n := 100) dX8_isHeld_99 rfl (k := ?_)
                refine q_go (t := 104) dX8_isHeld_100 (by decide) ?_
                refine q_iret dX8_isHeld_104 rfl (fun _ => rfl) ?_
                have hl := lawB_3 (L := L) (E := (fun q => loT (s 10) (σ 1 1) (pM (σ 1) 6 v) (pM (σ 1) 7 v) u w q))
                first
                  | (refine ⟨q_lf1 (hl.mpr ?_), rfl⟩
                     omega)
                  | (refine ⟨q_lf0 (fun z => ?_), rfl⟩
                     have z := hl.mp z
                     omega)
            · skip
              refine q_lconst (x := 1) (n := 89) dX8_isHeld_88 rfl (k := ?_)
              refine q_go (t := 93) dX8_isHeld_89 (by decide) ?_
              refine q_c3D (n := 96) dX8_isHeld_93 rfl (zX8_in _ _ _ _ _) vX8_in lX8_13 rfl rfl ?_
              refine q_if_eq (n := 99) (t := 103) dX8_isHeld_96 rfl (by decide) (fun h96 => ?_) (fun h96 => ?_)
              · have h96 := q_b0.mp h96
                refine q_iconst (n := 104) dX8_isHeld_103 rfl (k := ?_)
                refine q_iret dX8_isHeld_104 rfl (fun _ => rfl) ?_
                have hl := lawB_3 (L := L) (E := (fun q => loT (s 10) (σ 1 1) (pM (σ 1) 6 v) (pM (σ 1) 7 v) u w q))
                first
                  | (refine ⟨q_lf1 (hl.mpr ?_), rfl⟩
                     omega)
                  | (refine ⟨q_lf0 (fun z => ?_), rfl⟩
                     have z := hl.mp z
                     omega)
              · have h96 := q_b1.mp h96
                refine q_iconst (n := 100) dX8_isHeld_99 rfl (k := ?_)
                refine q_go (t := 104) dX8_isHeld_100 (by decide) ?_
                refine q_iret dX8_isHeld_104 rfl (fun _ => rfl) ?_
                have hl := lawB_3 (L := L) (E := (fun q => loT (s 10) (σ 1 1) (pM (σ 1) 6 v) (pM (σ 1) 7 v) u w q))
                first
                  | (refine ⟨q_lf1 (hl.mpr ?_), rfl⟩
                     omega)
                  | (refine ⟨q_lf0 (fun z => ?_), rfl⟩
                     have z := hl.mp z
                     omega)
      · skip
        refine q_iconst (n := 38) dX8_isHeld_37 rfl (k := ?_)
        refine q_iret dX8_isHeld_38 rfl (fun _ => rfl) ?_
        have hl := lawB_3 (L := L) (E := (fun q => loT (s 10) (σ 1 1) (pM (σ 1) 6 v) (pM (σ 1) 7 v) u w q))
        first
          | (refine ⟨q_lf1 (hl.mpr ?_), rfl⟩
             omega)
          | (refine ⟨q_lf0 (fun z => ?_), rfl⟩
             have z := hl.mp z
             omega)
    · skip
      refine q_iconst (n := 31) dX8_isHeld_30 rfl (k := ?_)
      refine q_iret dX8_isHeld_31 rfl (fun _ => rfl) ?_
      have hl := lawB_3 (L := L) (E := (fun q => loT (s 10) (σ 1 1) (pM (σ 1) 6 v) (pM (σ 1) 7 v) u w q))
      first
        | (refine ⟨q_lf1 (hl.mpr ?_), rfl⟩
           omega)
        | (refine ⟨q_lf0 (fun z => ?_), rfl⟩
           have z := hl.mp z
           omega)
