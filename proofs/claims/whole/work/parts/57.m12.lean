def askK (s : q_S) (A : q_A5) (a lost K : Int) : Prop := s 0 23 = K ∧ ag A.2.2.2.2 (s 11) A.2.1 ∧ (a = -1 → s 11 A.2.2.2.2 = -1) ∧ (lost = 1 → s 11 (K - 1) = -2)
def disK (a lost k K : Int) : Prop := (a = -1 ∧ lost = 1 ∧ K = k + 2) ∨ (a = -1 ∧ lost ≠ 1 ∧ K = k + 1) ∨ (a ≠ -1 ∧ lost = 1 ∧ K = k + 1) ∨ (a ≠ -1 ∧ lost ≠ 1 ∧ K = k)
def okA (kd : Int → Int) (nt a lost K : Int) (A : q_A5) : Prop := (∀ x, 0 ≤ x → x < A.2.2.2.2 → kd (A.2.1 x) = 12 ∧ 0 ≤ A.2.1 x ∧ A.2.1 x < nt) ∧ (∀ x x', 0 ≤ x → x < x' → x' < A.2.2.2.2 → A.2.1 x ≠ A.2.1 x') ∧ 0 ≤ A.2.2.2.2 ∧ disK a lost A.2.2.2.2 K ∧ K ≤ 5
def tdM (s : q_S) (kd : Int → Int) (nt : Int) : Prop := ∀ t, 0 ≤ t → t < nt → kd t ≠ 12 → s 10 t = kd t
def trM (K k : Int) (s : q_S) (S : q_W3) : Prop := ag k (s 12) S.1 ∧ s 0 26 = S.2.2 ∧ (S.2.2 ≠ 0 → ag K (s 13) S.2.1) ∧ 0 ≤ S.2.2 ∧ ∀ j, 0 ≤ j → j < k → 0 ≤ S.1 j ∧ S.1 j < 12
theorem askK_o {s s' : q_S} {A : q_A5} {a lost K : Int} (h : askK s A a lost K) (h0 : s' 0 23 = s 0 23) (h1 : ∀ x, s' 11 x = s 11 x) : askK s' A a lost K := by
  obtain ⟨a1, a2, a3, a4⟩ := h
  exact ⟨h0.trans a1, fun x x0 x1 => (h1 x).trans (a2 x x0 x1), fun z => (h1 _).trans (a3 z), fun z => (h1 _).trans (a4 z)⟩
theorem tdM_o {s s' : q_S} {kd : Int → Int} {nt : Int} (h : tdM s kd nt) (h1 : ∀ x, s' 10 x = s 10 x) : tdM s' kd nt := fun t t0 t1 z => (h1 t).trans (h t t0 t1 z)
theorem trM_o {K k : Int} {s s' : q_S} {S : q_W3} (h : trM K k s S) (h0 : s' 0 26 = s 0 26) (h1 : ∀ x, s' 12 x = s 12 x) (h2 : ∀ x, s' 13 x = s 13 x) : trM K k s' S := by
  obtain ⟨a1, a2, a3, a4⟩ := h
  exact ⟨fun x x0 x1 => (h1 x).trans (a1 x x0 x1), h0.trans a2, fun z x x0 x1 => (h2 x).trans (a3 z x x0 x1), a4⟩
theorem trM_mono {K k k' : Int} {s : q_S} {S : q_W3} (h : trM K k s S) (hk : k' ≤ k) : trM K k' s S := ⟨ag_mono h.1 hk, h.2.1, h.2.2.1, h.2.2.2.1, fun j j0 j1 => h.2.2.2.2 j j0 (by omega)⟩
theorem trM_ud {K k i : Int} {s : q_S} {S : q_W3} (h : trM K k s S) (hk : 0 ≤ k) (hi : 0 ≤ i ∧ i < 12) : trM K (k + 1) (q_up s 12 k i) (ud S.1 k i, S.2) := by
  obtain ⟨a1, a2, a3, a4, a5⟩ := h
  refine ⟨fun x x0 x1 => ?_, (q_up_n (by omega)).trans a2, fun z x x0 x1 => (q_up_n (by omega)).trans (a3 z x x0 x1), a4, fun j j0 j1 => ?_⟩
  · show _ = ud S.1 k i x
    by_cases e : x = k
    · rw [e, q_up_s]
      exact ud_s.symm
    · rw [q_up_n (fun z => e z.2), a1 x x0 (by omega)]
      exact (if_neg e).symm
  · show 0 ≤ ud S.1 k i j ∧ ud S.1 k i j < 12
    unfold ud
    by_cases e : j = k
    · rw [if_pos e]
      exact hi
    · rw [if_neg e]
      exact a5 j j0 (by omega)
theorem askK_at {s : q_S} {kd : Int → Int} {nt : Int} {A : q_A5} {a lost K i : Int} (h : askK s A a lost K) (hA : okA kd nt a lost K A) (h0 : 0 ≤ i ∧ i < K) : (i < A.2.2.2.2 ∧ s 11 i = A.2.1 i ∧ 0 ≤ A.2.1 i ∧ A.2.1 i < nt) ∨ (a = -1 ∧ i = A.2.2.2.2 ∧ s 11 i = -1) ∨ (lost = 1 ∧ i = K - 1 ∧ A.2.2.2.2 ≤ i ∧ (a = -1 → A.2.2.2.2 + 1 ≤ i) ∧ s 11 i = -2) := by
  obtain ⟨a1, a2, a3, a4⟩ := h
  obtain ⟨b1, b2, b3, b4, b5⟩ := hA
  by_cases e : i < A.2.2.2.2
  · exact Or.inl ⟨e, a2 i h0.1 e, (b1 i h0.1 e).2⟩
  · right
    unfold disK at b4
    by_cases ha : a = -1 ∧ i = A.2.2.2.2
    · left
      refine ⟨ha.1, ha.2, ?_⟩
      rw [ha.2]
      exact a3 ha.1
    · right
      have hl : lost = 1 := by omega
      have hi : i = K - 1 := by omega
      refine ⟨hl, hi, by omega, by omega, ?_⟩
      rw [hi]
      exact a4 hl
set_option maxHeartbeats 1000000 in
set_option maxRecDepth 100000 in
theorem lpX8_t1 (σ : q_S) (v L k lost K : Int) (A : q_A5) (hI : IM σ) (hv : 0 ≤ v ∧ v < σ 1 2) (hA : okA (pM (σ 1) 3) (σ 1 1) (pM (σ 1) 6 v) lost K A) (row : Int → Int) (Q : Option q_V → q_S → Prop) : ∀ (n : Nat) (i u w : Int) (s : q_S), (n : Int) + i = K → 0 ≤ i → askK s A (pM (σ 1) 6 v) lost K → ag K (s 12) row → tdM s (pM (σ 1) 3) (σ 1 1) → (∀ x, 0 ≤ x → x < i → x < A.2.2.2.2 → s 10 (A.2.1 x) = row x) → u = (if (pM (σ 1) 6 v) = -1 ∧ A.2.2.2.2 < i then row A.2.2.2.2 else -1) → w = (if lost = 1 ∧ K - 1 < i then row (K - 1) else -1) → (∀ (s' : q_S) (o6 : Option q_V), tdM s' (pM (σ 1) 3) (σ 1 1) → (∀ x, 0 ≤ x → x < A.2.2.2.2 → s' 10 (A.2.1 x) = row x) → (∀ c x, c ≠ 10 → s' c x = s c x) → q_WP (mX8_tries 0) shM 112 [some (.inr (.inr 0)), some (.inl v), some (.inl L), some (.inl k), some (.inl (if (pM (σ 1) 6 v) = -1 then row A.2.2.2.2 else -1)), some (.inl (if lost = 1 then row (K - 1) else -1)), o6] [] (ovM σ s') Q) → q_WP (mX8_tries 0) shM 17 [some (.inr (.inr 0)), some (.inl v), some (.inl L), some (.inl k), some (.inl u), some (.inl w), some (.inl i)] [] (ovM σ s) Q := by
  have hn := hI.nt
  have hd := hA.2.2.2.1
  unfold disK at hd
  have hk0 := hA.2.2.1
  have hk5 := hA.2.2.2.2
  intro n
  induction n with
  | zero =>
    intro i u w s hi h0 ha hrow htd hnm hu hw hQ
    have eu : u = (if (pM (σ 1) 6 v) = -1 then row A.2.2.2.2 else -1) := by
      rw [hu]
      by_cases e : (pM (σ 1) 6 v) = -1
      · rw [if_pos e, if_pos ⟨e, by omega⟩]
      · rw [if_neg e, if_neg (fun z => e z.1)]
    have ew : w = (if lost = 1 then row (K - 1) else -1) := by
      rw [hw]
      by_cases e : lost = 1
      · rw [if_pos e, if_pos ⟨e, by omega⟩]
      · rw [if_neg e, if_neg (fun z => e z.1)]
    refine q_iload (n := 19) dX8_tries_17 rfl rfl ?_
    refine q_aload_n (n := 20) dX8_tries_19 rfl rfl ?_
    refine q_getIE (K) (kI := 23) (n := 23) (by decide) dX8_tries_20 rfl fX8_278 mi0 rfl rfl (by first | exact ha.1 | (rw [om_s rfl, q_up_n (by omega)]; exact ha.1)) ?_
    refine q_icmp_ge (n := 26) (t := 112) dX8_tries_23 rfl (by decide) (fun h23 => ?_) (fun h23 => ?_)
    · skip
      rw [eu, ew]
      exact hQ s _ htd (fun x x0 x1 => hnm x x0 (by omega) x1) (fun _ _ _ => rfl)
    · exact absurd h23 (by omega)
  | succ n ih =>
    intro i u w s hi h0 ha hrow htd hnm hu hw hQ
    have hc := askK_at ha hA (i := i) ⟨h0, by omega⟩
    refine q_iload (n := 19) dX8_tries_17 rfl rfl ?_
    refine q_aload_n (n := 20) dX8_tries_19 rfl rfl ?_
    refine q_getIE (K) (kI := 23) (n := 23) (by decide) dX8_tries_20 rfl fX8_278 mi0 rfl rfl (by first | exact ha.1 | (rw [om_s rfl, q_up_n (by omega)]; exact ha.1)) ?_
    refine q_icmp_ge (n := 26) (t := 112) dX8_tries_23 rfl (by decide) (fun h23 => ?_) (fun h23 => ?_)
    · exact absurd h23 (by omega)
    · skip
      refine q_aload_n (n := 27) dX8_tries_26 rfl rfl ?_
      refine q_getR (n := 30) dX8_tries_27 rfl fX8_54 mi0 rfl ?_
      refine q_iload (n := 32) dX8_tries_30 rfl rfl ?_
      refine q_ialoadE (s 11 i) (n := 33) dX8_tries_32 rfl mi11 ⟨by omega, by omega⟩ (by first | rfl | (rw [om_s rfl, q_up_n (by omega)])) ?_
      refine q_if_lt (n := 36) (t := 55) dX8_tries_33 rfl (by decide) (fun h33 => ?_) (fun h33 => ?_)
      · skip
        first
          | rw [om_up rfl]
          | skip
        refine q_aload_n (n := 56) dX8_tries_55 rfl rfl ?_
        refine q_getR (n := 59) dX8_tries_56 rfl fX8_54 mi0 rfl ?_
        refine q_iload (n := 61) dX8_tries_59 rfl rfl ?_
        refine q_ialoadE (s 11 i) (n := 62) dX8_tries_61 rfl mi11 ⟨by omega, by omega⟩ (by first | rfl | (rw [om_s rfl, q_up_n (by omega)])) ?_
        refine q_iconst (n := 63) dX8_tries_62 rfl (k := ?_)
        refine q_icmp_ne (n := 66) (t := 76) dX8_tries_63 rfl (by decide) (fun h63 => ?_) (fun h63 => ?_)
        · skip
          refine q_iload (n := 78) dX8_tries_76 rfl rfl ?_
          refine q_istore (n := 80) dX8_tries_78 rfl (Nat.le_of_ble_eq_true rfl) (q_s1_s (q_s1_s (q_s1_s (q_s1_1 rfl)))) ?_
          refine q_aload_n (n := 81) dX8_tries_80 rfl rfl ?_
          refine q_getR (n := 84) dX8_tries_81 rfl fX8_54 mi0 rfl ?_
          refine q_iload (n := 86) dX8_tries_84 rfl rfl ?_
          refine q_ialoadE (s 11 i) (n := 87) dX8_tries_86 rfl mi11 ⟨by omega, by omega⟩ (by first | rfl | (rw [om_s rfl, q_up_n (by omega)])) ?_
          refine q_bipush (n := 89) dX8_tries_87 rfl (k := ?_)
          refine q_icmp_ne (n := 92) (t := 102) dX8_tries_89 rfl (by decide) (fun h89 => ?_) (fun h89 => ?_)
          · skip
            refine q_iload (n := 104) dX8_tries_102 rfl rfl ?_
            refine q_istore (n := 106) dX8_tries_104 rfl (Nat.le_of_ble_eq_true rfl) (q_s1_s (q_s1_s (q_s1_s (q_s1_s (q_s1_1 rfl))))) ?_
            refine q_iinc (n := 109) dX8_tries_106 rfl (Nat.le_of_ble_eq_true rfl) rfl (q_nwid ⟨by omega, by omega⟩) (q_s1_s (q_s1_s (q_s1_s (q_s1_s (q_s1_s (q_s1_1 rfl)))))) ?_
            refine q_go (t := 17) dX8_tries_109 (by decide) ?_
            first
              | (exfalso; omega)
              | (have hc1 : i < A.2.2.2.2 ∧ s 11 i = A.2.1 i := by omega
                 have hb := hA.1 i h0 hc1.1
                 refine ih (i + 1) u w _ (by omega) (by omega) (askK_o ha (q_up_n (by omega)) (fun x => q_up_n (by omega))) (fun x x0 x1 => (q_up_n (by omega)).trans (hrow x x0 x1)) (fun t t0 t1 z => ?_) (fun x x0 x1 x2 => ?_) ?_ ?_ (fun s' o6 b1 b2 b3 => hQ s' o6 b1 b2 (fun c x hcx => (b3 c x hcx).trans (q_up_n (fun z => hcx z.1))))
                 · refine (q_up_n (fun z2 => ?_)).trans (htd t t0 t1 z)
                   rw [z2.2, hc1.2] at z
                   exact z hb.1
                 · rw [hc1.2]
                   by_cases e : x = i
                   · rw [e, q_up_s]
                   · rw [q_up_n (fun z2 => hA.2.1 x i x0 (by omega) hc1.1 z2.2)]
                     exact hnm x x0 (by omega) x2
                 · rw [hu, if_neg (by omega), if_neg (by omega)]
                 · rw [hw, if_neg (by omega), if_neg (by omega)])
              | (have hc1 : (pM (σ 1) 6 v) = -1 ∧ i = A.2.2.2.2 := by omega
                 refine ih (i + 1) (row i) w s (by omega) (by omega) ha hrow htd (fun x x0 x1 x2 => hnm x x0 (by omega) x2) ?_ ?_ hQ
                 · rw [if_pos ⟨hc1.1, by omega⟩, hc1.2]
                 · rw [hw, if_neg (by omega), if_neg (by omega)])
              | (have hc1 : lost = 1 ∧ i = K - 1 := by omega
                 refine ih (i + 1) u (row i) s (by omega) (by omega) ha hrow htd (fun x x0 x1 x2 => hnm x x0 (by omega) x2) ?_ ?_ hQ
                 · rw [hu]
                   by_cases e : (pM (σ 1) 6 v) = -1
                   · rw [if_pos ⟨e, by omega⟩, if_pos ⟨e, by omega⟩]
                   · rw [if_neg (fun z => e z.1), if_neg (fun z => e z.1)]
                 · rw [if_pos ⟨hc1.1, by omega⟩, hc1.2])
          · skip
            refine q_aload_n (n := 93) dX8_tries_92 rfl rfl ?_
            refine q_getR (n := 96) dX8_tries_93 rfl fX8_57 mi0 rfl ?_
            refine q_iload (n := 98) dX8_tries_96 rfl rfl ?_
            refine q_ialoadE (row i) (n := 99) dX8_tries_98 rfl mi12 ⟨by omega, by omega⟩ (by first | exact hrow i h0 (by omega) | (rw [om_s rfl, q_up_n (by omega)]; exact hrow i h0 (by omega))) ?_
            refine q_go (t := 104) dX8_tries_99 (by decide) ?_
            refine q_istore (n := 106) dX8_tries_104 rfl (Nat.le_of_ble_eq_true rfl) (q_s1_s (q_s1_s (q_s1_s (q_s1_s (q_s1_1 rfl))))) ?_
            refine q_iinc (n := 109) dX8_tries_106 rfl (Nat.le_of_ble_eq_true rfl) rfl (q_nwid ⟨by omega, by omega⟩) (q_s1_s (q_s1_s (q_s1_s (q_s1_s (q_s1_s (q_s1_1 rfl)))))) ?_
            refine q_go (t := 17) dX8_tries_109 (by decide) ?_
            first
              | (exfalso; omega)
              | (have hc1 : i < A.2.2.2.2 ∧ s 11 i = A.2.1 i := by omega
                 have hb := hA.1 i h0 hc1.1
                 refine ih (i + 1) u w _ (by omega) (by omega) (askK_o ha (q_up_n (by omega)) (fun x => q_up_n (by omega))) (fun x x0 x1 => (q_up_n (by omega)).trans (hrow x x0 x1)) (fun t t0 t1 z => ?_) (fun x x0 x1 x2 => ?_) ?_ ?_ (fun s' o6 b1 b2 b3 => hQ s' o6 b1 b2 (fun c x hcx => (b3 c x hcx).trans (q_up_n (fun z => hcx z.1))))
                 · refine (q_up_n (fun z2 => ?_)).trans (htd t t0 t1 z)
                   rw [z2.2, hc1.2] at z
                   exact z hb.1
                 · rw [hc1.2]
                   by_cases e : x = i
                   · rw [e, q_up_s]
                   · rw [q_up_n (fun z2 => hA.2.1 x i x0 (by omega) hc1.1 z2.2)]
                     exact hnm x x0 (by omega) x2
                 · rw [hu, if_neg (by omega), if_neg (by omega)]
                 · rw [hw, if_neg (by omega), if_neg (by omega)])
              | (have hc1 : (pM (σ 1) 6 v) = -1 ∧ i = A.2.2.2.2 := by omega
                 refine ih (i + 1) (row i) w s (by omega) (by omega) ha hrow htd (fun x x0 x1 x2 => hnm x x0 (by omega) x2) ?_ ?_ hQ
                 · rw [if_pos ⟨hc1.1, by omega⟩, hc1.2]
                 · rw [hw, if_neg (by omega), if_neg (by omega)])
              | (have hc1 : lost = 1 ∧ i = K - 1 := by omega
                 refine ih (i + 1) u (row i) s (by omega) (by omega) ha hrow htd (fun x x0 x1 x2 => hnm x x0 (by omega) x2) ?_ ?_ hQ
                 · rw [hu]
                   by_cases e : (pM (σ 1) 6 v) = -1
                   · rw [if_pos ⟨e, by omega⟩, if_pos ⟨e, by omega⟩]
                   · rw [if_neg (fun z => e z.1), if_neg (fun z => e z.1)]
                 · rw [if_pos ⟨hc1.1, by omega⟩, hc1.2])
        · skip
          refine q_aload_n (n := 67) dX8_tries_66 rfl rfl ?_
          refine q_getR (n := 70) dX8_tries_67 rfl fX8_57 mi0 rfl ?_
          refine q_iload (n := 72) dX8_tries_70 rfl rfl ?_
          refine q_ialoadE (row i) (n := 73) dX8_tries_72 rfl mi12 ⟨by omega, by omega⟩ (by first | exact hrow i h0 (by omega) | (rw [om_s rfl, q_up_n (by omega)]; exact hrow i h0 (by omega))) ?_
          refine q_go (t := 78) dX8_tries_73 (by decide) ?_
          refine q_istore (n := 80) dX8_tries_78 rfl (Nat.le_of_ble_eq_true rfl) (q_s1_s (q_s1_s (q_s1_s (q_s1_1 rfl)))) ?_
          refine q_aload_n (n := 81) dX8_tries_80 rfl rfl ?_
          refine q_getR (n := 84) dX8_tries_81 rfl fX8_54 mi0 rfl ?_
          refine q_iload (n := 86) dX8_tries_84 rfl rfl ?_
          refine q_ialoadE (s 11 i) (n := 87) dX8_tries_86 rfl mi11 ⟨by omega, by omega⟩ (by first | rfl | (rw [om_s rfl, q_up_n (by omega)])) ?_
          refine q_bipush (n := 89) dX8_tries_87 rfl (k := ?_)
          refine q_icmp_ne (n := 92) (t := 102) dX8_tries_89 rfl (by decide) (fun h89 => ?_) (fun h89 => ?_)
          · skip
            refine q_iload (n := 104) dX8_tries_102 rfl rfl ?_
            refine q_istore (n := 106) dX8_tries_104 rfl (Nat.le_of_ble_eq_true rfl) (q_s1_s (q_s1_s (q_s1_s (q_s1_s (q_s1_1 rfl))))) ?_
            refine q_iinc (n := 109) dX8_tries_106 rfl (Nat.le_of_ble_eq_true rfl) rfl (q_nwid ⟨by omega, by omega⟩) (q_s1_s (q_s1_s (q_s1_s (q_s1_s (q_s1_s (q_s1_1 rfl)))))) ?_
            refine q_go (t := 17) dX8_tries_109 (by decide) ?_
            first
              | (exfalso; omega)
              | (have hc1 : i < A.2.2.2.2 ∧ s 11 i = A.2.1 i := by omega
                 have hb := hA.1 i h0 hc1.1
                 refine ih (i + 1) u w _ (by omega) (by omega) (askK_o ha (q_up_n (by omega)) (fun x => q_up_n (by omega))) (fun x x0 x1 => (q_up_n (by omega)).trans (hrow x x0 x1)) (fun t t0 t1 z => ?_) (fun x x0 x1 x2 => ?_) ?_ ?_ (fun s' o6 b1 b2 b3 => hQ s' o6 b1 b2 (fun c x hcx => (b3 c x hcx).trans (q_up_n (fun z => hcx z.1))))
                 · refine (q_up_n (fun z2 => ?_)).trans (htd t t0 t1 z)
                   rw [z2.2, hc1.2] at z
                   exact z hb.1
                 · rw [hc1.2]
                   by_cases e : x = i
                   · rw [e, q_up_s]
                   · rw [q_up_n (fun z2 => hA.2.1 x i x0 (by omega) hc1.1 z2.2)]
                     exact hnm x x0 (by omega) x2
                 · rw [hu, if_neg (by omega), if_neg (by omega)]
                 · rw [hw, if_neg (by omega), if_neg (by omega)])
              | (have hc1 : (pM (σ 1) 6 v) = -1 ∧ i = A.2.2.2.2 := by omega
                 refine ih (i + 1) (row i) w s (by omega) (by omega) ha hrow htd (fun x x0 x1 x2 => hnm x x0 (by omega) x2) ?_ ?_ hQ
                 · rw [if_pos ⟨hc1.1, by omega⟩, hc1.2]
                 · rw [hw, if_neg (by omega), if_neg (by omega)])
              | (have hc1 : lost = 1 ∧ i = K - 1 := by omega
                 refine ih (i + 1) u (row i) s (by omega) (by omega) ha hrow htd (fun x x0 x1 x2 => hnm x x0 (by omega) x2) ?_ ?_ hQ
                 · rw [hu]
                   by_cases e : (pM (σ 1) 6 v) = -1
                   · rw [if_pos ⟨e, by omega⟩, if_pos ⟨e, by omega⟩]
                   · rw [if_neg (fun z => e z.1), if_neg (fun z => e z.1)]
                 · rw [if_pos ⟨hc1.1, by omega⟩, hc1.2])
          · skip
            refine q_aload_n (n := 93) dX8_tries_92 rfl rfl ?_
            refine q_getR (n := 96) dX8_tries_93 rfl fX8_57 mi0 rfl ?_
            refine q_iload (n := 98) dX8_tries_96 rfl rfl ?_
            refine q_ialoadE (row i) (n := 99) dX8_tries_98 rfl mi12 ⟨by omega, by omega⟩ (by first | exact hrow i h0 (by omega) | (rw [om_s rfl, q_up_n (by omega)]; exact hrow i h0 (by omega))) ?_
            refine q_go (t := 104) dX8_tries_99 (by decide) ?_
            refine q_istore (n := 106) dX8_tries_104 rfl (Nat.le_of_ble_eq_true rfl) (q_s1_s (q_s1_s (q_s1_s (q_s1_s (q_s1_1 rfl))))) ?_
            refine q_iinc (n := 109) dX8_tries_106 rfl (Nat.le_of_ble_eq_true rfl) rfl (q_nwid ⟨by omega, by omega⟩) (q_s1_s (q_s1_s (q_s1_s (q_s1_s (q_s1_s (q_s1_1 rfl)))))) ?_
            refine q_go (t := 17) dX8_tries_109 (by decide) ?_
            first
              | (exfalso; omega)
              | (have hc1 : i < A.2.2.2.2 ∧ s 11 i = A.2.1 i := by omega
                 have hb := hA.1 i h0 hc1.1
                 refine ih (i + 1) u w _ (by omega) (by omega) (askK_o ha (q_up_n (by omega)) (fun x => q_up_n (by omega))) (fun x x0 x1 => (q_up_n (by omega)).trans (hrow x x0 x1)) (fun t t0 t1 z => ?_) (fun x x0 x1 x2 => ?_) ?_ ?_ (fun s' o6 b1 b2 b3 => hQ s' o6 b1 b2 (fun c x hcx => (b3 c x hcx).trans (q_up_n (fun z => hcx z.1))))
                 · refine (q_up_n (fun z2 => ?_)).trans (htd t t0 t1 z)
                   rw [z2.2, hc1.2] at z
                   exact z hb.1
                 · rw [hc1.2]
                   by_cases e : x = i
                   · rw [e, q_up_s]
                   · rw [q_up_n (fun z2 => hA.2.1 x i x0 (by omega) hc1.1 z2.2)]
                     exact hnm x x0 (by omega) x2
                 · rw [hu, if_neg (by omega), if_neg (by omega)]
                 · rw [hw, if_neg (by omega), if_neg (by omega)])
              | (have hc1 : (pM (σ 1) 6 v) = -1 ∧ i = A.2.2.2.2 := by omega
                 refine ih (i + 1) (row i) w s (by omega) (by omega) ha hrow htd (fun x x0 x1 x2 => hnm x x0 (by omega) x2) ?_ ?_ hQ
                 · rw [if_pos ⟨hc1.1, by omega⟩, hc1.2]
                 · rw [hw, if_neg (by omega), if_neg (by omega)])
              | (have hc1 : lost = 1 ∧ i = K - 1 := by omega
                 refine ih (i + 1) u (row i) s (by omega) (by omega) ha hrow htd (fun x x0 x1 x2 => hnm x x0 (by omega) x2) ?_ ?_ hQ
                 · rw [hu]
                   by_cases e : (pM (σ 1) 6 v) = -1
                   · rw [if_pos ⟨e, by omega⟩, if_pos ⟨e, by omega⟩]
                   · rw [if_neg (fun z => e z.1), if_neg (fun z => e z.1)]
                 · rw [if_pos ⟨hc1.1, by omega⟩, hc1.2])
      · skip
        refine q_aload_n (n := 37) dX8_tries_36 rfl rfl ?_
        refine q_getR (n := 40) dX8_tries_37 rfl fX8_51 mi0 rfl ?_
        refine q_aload_n (n := 41) dX8_tries_40 rfl rfl ?_
        refine q_getR (n := 44) dX8_tries_41 rfl fX8_54 mi0 rfl ?_
        refine q_iload (n := 46) dX8_tries_44 rfl rfl ?_
        refine q_ialoadE (s 11 i) (n := 47) dX8_tries_46 rfl mi11 ⟨by omega, by omega⟩ (by first | rfl | (rw [om_s rfl, q_up_n (by omega)])) ?_
        refine q_aload_n (n := 48) dX8_tries_47 rfl rfl ?_
        refine q_getR (n := 51) dX8_tries_48 rfl fX8_57 mi0 rfl ?_
        refine q_iload (n := 53) dX8_tries_51 rfl rfl ?_
        refine q_ialoadE (row i) (n := 54) dX8_tries_53 rfl mi12 ⟨by omega, by omega⟩ (by first | exact hrow i h0 (by omega) | (rw [om_s rfl, q_up_n (by omega)]; exact hrow i h0 (by omega))) ?_
        refine q_iastore (n := 55) dX8_tries_54 rfl mi10 ⟨by omega, by omega⟩ ?_
        first
          | rw [om_up rfl]
          | skip
        refine q_aload_n (n := 56) dX8_tries_55 rfl rfl ?_
        refine q_getR (n := 59) dX8_tries_56 rfl fX8_54 mi0 rfl ?_
        refine q_iload (n := 61) dX8_tries_59 rfl rfl ?_
        refine q_ialoadE (s 11 i) (n := 62) dX8_tries_61 rfl mi11 ⟨by omega, by omega⟩ (by first | rfl | (rw [om_s rfl, q_up_n (by omega)])) ?_
        refine q_iconst (n := 63) dX8_tries_62 rfl (k := ?_)
        refine q_icmp_ne (n := 66) (t := 76) dX8_tries_63 rfl (by decide) (fun h63 => ?_) (fun h63 => ?_)
        · skip
          refine q_iload (n := 78) dX8_tries_76 rfl rfl ?_
          refine q_istore (n := 80) dX8_tries_78 rfl (Nat.le_of_ble_eq_true rfl) (q_s1_s (q_s1_s (q_s1_s (q_s1_1 rfl)))) ?_
          refine q_aload_n (n := 81) dX8_tries_80 rfl rfl ?_
          refine q_getR (n := 84) dX8_tries_81 rfl fX8_54 mi0 rfl ?_
          refine q_iload (n := 86) dX8_tries_84 rfl rfl ?_
          refine q_ialoadE (s 11 i) (n := 87) dX8_tries_86 rfl mi11 ⟨by omega, by omega⟩ (by first | rfl | (rw [om_s rfl, q_up_n (by omega)])) ?_
          refine q_bipush (n := 89) dX8_tries_87 rfl (k := ?_)
          refine q_icmp_ne (n := 92) (t := 102) dX8_tries_89 rfl (by decide) (fun h89 => ?_) (fun h89 => ?_)
          · skip
            refine q_iload (n := 104) dX8_tries_102 rfl rfl ?_
            refine q_istore (n := 106) dX8_tries_104 rfl (Nat.le_of_ble_eq_true rfl) (q_s1_s (q_s1_s (q_s1_s (q_s1_s (q_s1_1 rfl))))) ?_
            refine q_iinc (n := 109) dX8_tries_106 rfl (Nat.le_of_ble_eq_true rfl) rfl (q_nwid ⟨by omega, by omega⟩) (q_s1_s (q_s1_s (q_s1_s (q_s1_s (q_s1_s (q_s1_1 rfl)))))) ?_
            refine q_go (t := 17) dX8_tries_109 (by decide) ?_
            first
              | (exfalso; omega)
              | (have hc1 : i < A.2.2.2.2 ∧ s 11 i = A.2.1 i := by omega
                 have hb := hA.1 i h0 hc1.1
                 refine ih (i + 1) u w _ (by omega) (by omega) (askK_o ha (q_up_n (by omega)) (fun x => q_up_n (by omega))) (fun x x0 x1 => (q_up_n (by omega)).trans (hrow x x0 x1)) (fun t t0 t1 z => ?_) (fun x x0 x1 x2 => ?_) ?_ ?_ (fun s' o6 b1 b2 b3 => hQ s' o6 b1 b2 (fun c x hcx => (b3 c x hcx).trans (q_up_n (fun z => hcx z.1))))
                 · refine (q_up_n (fun z2 => ?_)).trans (htd t t0 t1 z)
                   rw [z2.2, hc1.2] at z
                   exact z hb.1
                 · rw [hc1.2]
                   by_cases e : x = i
                   · rw [e, q_up_s]
                   · rw [q_up_n (fun z2 => hA.2.1 x i x0 (by omega) hc1.1 z2.2)]
                     exact hnm x x0 (by omega) x2
                 · rw [hu, if_neg (by omega), if_neg (by omega)]
                 · rw [hw, if_neg (by omega), if_neg (by omega)])
              | (have hc1 : (pM (σ 1) 6 v) = -1 ∧ i = A.2.2.2.2 := by omega
                 refine ih (i + 1) (row i) w s (by omega) (by omega) ha hrow htd (fun x x0 x1 x2 => hnm x x0 (by omega) x2) ?_ ?_ hQ
                 · rw [if_pos ⟨hc1.1, by omega⟩, hc1.2]
                 · rw [hw, if_neg (by omega), if_neg (by omega)])
              | (have hc1 : lost = 1 ∧ i = K - 1 := by omega
                 refine ih (i + 1) u (row i) s (by omega) (by omega) ha hrow htd (fun x x0 x1 x2 => hnm x x0 (by omega) x2) ?_ ?_ hQ
                 · rw [hu]
                   by_cases e : (pM (σ 1) 6 v) = -1
                   · rw [if_pos ⟨e, by omega⟩, if_pos ⟨e, by omega⟩]
                   · rw [if_neg (fun z => e z.1), if_neg (fun z => e z.1)]
                 · rw [if_pos ⟨hc1.1, by omega⟩, hc1.2])
          · skip
            refine q_aload_n (n := 93) dX8_tries_92 rfl rfl ?_
            refine q_getR (n := 96) dX8_tries_93 rfl fX8_57 mi0 rfl ?_
            refine q_iload (n := 98) dX8_tries_96 rfl rfl ?_
            refine q_ialoadE (row i) (n := 99) dX8_tries_98 rfl mi12 ⟨by omega, by omega⟩ (by first | exact hrow i h0 (by omega) | (rw [om_s rfl, q_up_n (by omega)]; exact hrow i h0 (by omega))) ?_
            refine q_go (t := 104) dX8_tries_99 (by decide) ?_
            refine q_istore (n := 106) dX8_tries_104 rfl (Nat.le_of_ble_eq_true rfl) (q_s1_s (q_s1_s (q_s1_s (q_s1_s (q_s1_1 rfl))))) ?_
            refine q_iinc (n := 109) dX8_tries_106 rfl (Nat.le_of_ble_eq_true rfl) rfl (q_nwid ⟨by omega, by omega⟩) (q_s1_s (q_s1_s (q_s1_s (q_s1_s (q_s1_s (q_s1_1 rfl)))))) ?_
            refine q_go (t := 17) dX8_tries_109 (by decide) ?_
            first
              | (exfalso; omega)
              | (have hc1 : i < A.2.2.2.2 ∧ s 11 i = A.2.1 i := by omega
                 have hb := hA.1 i h0 hc1.1
                 refine ih (i + 1) u w _ (by omega) (by omega) (askK_o ha (q_up_n (by omega)) (fun x => q_up_n (by omega))) (fun x x0 x1 => (q_up_n (by omega)).trans (hrow x x0 x1)) (fun t t0 t1 z => ?_) (fun x x0 x1 x2 => ?_) ?_ ?_ (fun s' o6 b1 b2 b3 => hQ s' o6 b1 b2 (fun c x hcx => (b3 c x hcx).trans (q_up_n (fun z => hcx z.1))))
                 · refine (q_up_n (fun z2 => ?_)).trans (htd t t0 t1 z)
                   rw [z2.2, hc1.2] at z
                   exact z hb.1
                 · rw [hc1.2]
                   by_cases e : x = i
                   · rw [e, q_up_s]
                   · rw [q_up_n (fun z2 => hA.2.1 x i x0 (by omega) hc1.1 z2.2)]
                     exact hnm x x0 (by omega) x2
                 · rw [hu, if_neg (by omega), if_neg (by omega)]
                 · rw [hw, if_neg (by omega), if_neg (by omega)])
              | (have hc1 : (pM (σ 1) 6 v) = -1 ∧ i = A.2.2.2.2 := by omega
                 refine ih (i + 1) (row i) w s (by omega) (by omega) ha hrow htd (fun x x0 x1 x2 => hnm x x0 (by omega) x2) ?_ ?_ hQ
                 · rw [if_pos ⟨hc1.1, by omega⟩, hc1.2]
                 · rw [hw, if_neg (by omega), if_neg (by omega)])
              | (have hc1 : lost = 1 ∧ i = K - 1 := by omega
                 refine ih (i + 1) u (row i) s (by omega) (by omega) ha hrow htd (fun x x0 x1 x2 => hnm x x0 (by omega) x2) ?_ ?_ hQ
                 · rw [hu]
                   by_cases e : (pM (σ 1) 6 v) = -1
                   · rw [if_pos ⟨e, by omega⟩, if_pos ⟨e, by omega⟩]
                   · rw [if_neg (fun z => e z.1), if_neg (fun z => e z.1)]
                 · rw [if_pos ⟨hc1.1, by omega⟩, hc1.2])
        · skip
          refine q_aload_n (n := 67) dX8_tries_66 rfl rfl ?_
          refine q_getR (n := 70) dX8_tries_67 rfl fX8_57 mi0 rfl ?_
          refine q_iload (n := 72) dX8_tries_70 rfl rfl ?_
          refine q_ialoadE (row i) (n := 73) dX8_tries_72 rfl mi12 ⟨by omega, by omega⟩ (by first | exact hrow i h0 (by omega) | (rw [om_s rfl, q_up_n (by omega)]; exact hrow i h0 (by omega))) ?_
          refine q_go (t := 78) dX8_tries_73 (by decide) ?_
          refine q_istore (n := 80) dX8_tries_78 rfl (Nat.le_of_ble_eq_true rfl) (q_s1_s (q_s1_s (q_s1_s (q_s1_1 rfl)))) ?_
          refine q_aload_n (n := 81) dX8_tries_80 rfl rfl ?_
          refine q_getR (n := 84) dX8_tries_81 rfl fX8_54 mi0 rfl ?_
          refine q_iload (n := 86) dX8_tries_84 rfl rfl ?_
          refine q_ialoadE (s 11 i) (n := 87) dX8_tries_86 rfl mi11 ⟨by omega, by omega⟩ (by first | rfl | (rw [om_s rfl, q_up_n (by omega)])) ?_
          refine q_bipush (n := 89) dX8_tries_87 rfl (k := ?_)
          refine q_icmp_ne (n := 92) (t := 102) dX8_tries_89 rfl (by decide) (fun h89 => ?_) (fun h89 => ?_)
          · skip
            refine q_iload (n := 104) dX8_tries_102 rfl rfl ?_
            refine q_istore (n := 106) dX8_tries_104 rfl (Nat.le_of_ble_eq_true rfl) (q_s1_s (q_s1_s (q_s1_s (q_s1_s (q_s1_1 rfl))))) ?_
            refine q_iinc (n := 109) dX8_tries_106 rfl (Nat.le_of_ble_eq_true rfl) rfl (q_nwid ⟨by omega, by omega⟩) (q_s1_s (q_s1_s (q_s1_s (q_s1_s (q_s1_s (q_s1_1 rfl)))))) ?_
            refine q_go (t := 17) dX8_tries_109 (by decide) ?_
            first
              | (exfalso; omega)
              | (have hc1 : i < A.2.2.2.2 ∧ s 11 i = A.2.1 i := by omega
                 have hb := hA.1 i h0 hc1.1
                 refine ih (i + 1) u w _ (by omega) (by omega) (askK_o ha (q_up_n (by omega)) (fun x => q_up_n (by omega))) (fun x x0 x1 => (q_up_n (by omega)).trans (hrow x x0 x1)) (fun t t0 t1 z => ?_) (fun x x0 x1 x2 => ?_) ?_ ?_ (fun s' o6 b1 b2 b3 => hQ s' o6 b1 b2 (fun c x hcx => (b3 c x hcx).trans (q_up_n (fun z => hcx z.1))))
                 · refine (q_up_n (fun z2 => ?_)).trans (htd t t0 t1 z)
                   rw [z2.2, hc1.2] at z
                   exact z hb.1
                 · rw [hc1.2]
                   by_cases e : x = i
                   · rw [e, q_up_s]
                   · rw [q_up_n (fun z2 => hA.2.1 x i x0 (by omega) hc1.1 z2.2)]
                     exact hnm x x0 (by omega) x2
                 · rw [hu, if_neg (by omega), if_neg (by omega)]
                 · rw [hw, if_neg (by omega), if_neg (by omega)])
              | (have hc1 : (pM (σ 1) 6 v) = -1 ∧ i = A.2.2.2.2 := by omega
                 refine ih (i + 1) (row i) w s (by omega) (by omega) ha hrow htd (fun x x0 x1 x2 => hnm x x0 (by omega) x2) ?_ ?_ hQ
                 · rw [if_pos ⟨hc1.1, by omega⟩, hc1.2]
                 · rw [hw, if_neg (by omega), if_neg (by omega)])
              | (have hc1 : lost = 1 ∧ i = K - 1 := by omega
                 refine ih (i + 1) u (row i) s (by omega) (by omega) ha hrow htd (fun x x0 x1 x2 => hnm x x0 (by omega) x2) ?_ ?_ hQ
                 · rw [hu]
                   by_cases e : (pM (σ 1) 6 v) = -1
                   · rw [if_pos ⟨e, by omega⟩, if_pos ⟨e, by omega⟩]
                   · rw [if_neg (fun z => e z.1), if_neg (fun z => e z.1)]
                 · rw [if_pos ⟨hc1.1, by omega⟩, hc1.2])
          · skip
            refine q_aload_n (n := 93) dX8_tries_92 rfl rfl ?_
            refine q_getR (n := 96) dX8_tries_93 rfl fX8_57 mi0 rfl ?_
            refine q_iload (n := 98) dX8_tries_96 rfl rfl ?_
            refine q_ialoadE (row i) (n := 99) dX8_tries_98 rfl mi12 ⟨by omega, by omega⟩ (by first | exact hrow i h0 (by omega) | (rw [om_s rfl, q_up_n (by omega)]; exact hrow i h0 (by omega))) ?_
            refine q_go (t := 104) dX8_tries_99 (by decide) ?_
            refine q_istore (n := 106) dX8_tries_104 rfl (Nat.le_of_ble_eq_true rfl) (q_s1_s (q_s1_s (q_s1_s (q_s1_s (q_s1_1 rfl))))) ?_
            refine q_iinc (n := 109) dX8_tries_106 rfl (Nat.le_of_ble_eq_true rfl) rfl (q_nwid ⟨by omega, by omega⟩) (q_s1_s (q_s1_s (q_s1_s (q_s1_s (q_s1_s (q_s1_1 rfl)))))) ?_
            refine q_go (t := 17) dX8_tries_109 (by decide) ?_
            first
              | (exfalso; omega)
              | (have hc1 : i < A.2.2.2.2 ∧ s 11 i = A.2.1 i := by omega
                 have hb := hA.1 i h0 hc1.1
                 refine ih (i + 1) u w _ (by omega) (by omega) (askK_o ha (q_up_n (by omega)) (fun x => q_up_n (by omega))) (fun x x0 x1 => (q_up_n (by omega)).trans (hrow x x0 x1)) (fun t t0 t1 z => ?_) (fun x x0 x1 x2 => ?_) ?_ ?_ (fun s' o6 b1 b2 b3 => hQ s' o6 b1 b2 (fun c x hcx => (b3 c x hcx).trans (q_up_n (fun z => hcx z.1))))
                 · refine (q_up_n (fun z2 => ?_)).trans (htd t t0 t1 z)
                   rw [z2.2, hc1.2] at z
                   exact z hb.1
                 · rw [hc1.2]
                   by_cases e : x = i
                   · rw [e, q_up_s]
                   · rw [q_up_n (fun z2 => hA.2.1 x i x0 (by omega) hc1.1 z2.2)]
                     exact hnm x x0 (by omega) x2
                 · rw [hu, if_neg (by omega), if_neg (by omega)]
                 · rw [hw, if_neg (by omega), if_neg (by omega)])
              | (have hc1 : (pM (σ 1) 6 v) = -1 ∧ i = A.2.2.2.2 := by omega
                 refine ih (i + 1) (row i) w s (by omega) (by omega) ha hrow htd (fun x x0 x1 x2 => hnm x x0 (by omega) x2) ?_ ?_ hQ
                 · rw [if_pos ⟨hc1.1, by omega⟩, hc1.2]
                 · rw [hw, if_neg (by omega), if_neg (by omega)])
              | (have hc1 : lost = 1 ∧ i = K - 1 := by omega
                 refine ih (i + 1) u (row i) s (by omega) (by omega) ha hrow htd (fun x x0 x1 x2 => hnm x x0 (by omega) x2) ?_ ?_ hQ
                 · rw [hu]
                   by_cases e : (pM (σ 1) 6 v) = -1
                   · rw [if_pos ⟨e, by omega⟩, if_pos ⟨e, by omega⟩]
                   · rw [if_neg (fun z => e z.1), if_neg (fun z => e z.1)]
                 · rw [if_pos ⟨hc1.1, by omega⟩, hc1.2])
set_option maxHeartbeats 1000000 in
set_option maxRecDepth 100000 in
theorem lpX8_t2 (σ : q_S) (v L k u w K W : Int) (Q : Option q_V → q_S → Prop) (hK5 : K ≤ 5) : ∀ (n : Nat) (i : Int) (s : q_S), (n : Int) + i = K → 0 ≤ i → s 0 23 = K → s 0 26 = W → (W = 0 → ∀ x, 0 ≤ x → x < i → s 13 x = s 12 x) → (∀ (s' : q_S) (o6 : Option q_V), (W = 0 → ag K (s' 13) (s 12)) → (W ≠ 0 → ∀ x, s' 13 x = s 13 x) → (∀ c x, c ≠ 13 → s' c x = s c x) → q_WP (mX8_tries 0) shM 165 [some (.inr (.inr 0)), some (.inl v), some (.inl L), some (.inl k), some (.inl u), some (.inl w), o6] [] (ovM σ s') Q) → q_WP (mX8_tries 0) shM 129 [some (.inr (.inr 0)), some (.inl v), some (.inl L), some (.inl k), some (.inl u), some (.inl w), some (.inl i)] [] (ovM σ s) Q := by
  intro n
  induction n with
  | zero =>
    intro i s hi h0 hK hW hf hQ
    refine q_iload (n := 131) dX8_tries_129 rfl rfl ?_
    refine q_aload_n (n := 132) dX8_tries_131 rfl rfl ?_
    refine q_getIE (K) (kI := 23) (n := 135) (by decide) dX8_tries_132 rfl fX8_278 mi0 rfl rfl (by first | exact hK | (rw [om_s rfl, q_up_n (by omega)]; exact hK)) ?_
    refine q_icmp_ge (n := 138) (t := 165) dX8_tries_135 rfl (by decide) (fun h135 => ?_) (fun h135 => ?_)
    · skip
      exact hQ s _ (fun z x x0 x1 => hf z x x0 (by omega)) (fun _ _ => rfl) (fun _ _ _ => rfl)
    · exact absurd h135 (by omega)
  | succ n ih =>
    intro i s hi h0 hK hW hf hQ
    refine q_iload (n := 131) dX8_tries_129 rfl rfl ?_
    refine q_aload_n (n := 132) dX8_tries_131 rfl rfl ?_
    refine q_getIE (K) (kI := 23) (n := 135) (by decide) dX8_tries_132 rfl fX8_278 mi0 rfl rfl (by first | exact hK | (rw [om_s rfl, q_up_n (by omega)]; exact hK)) ?_
    refine q_icmp_ge (n := 138) (t := 165) dX8_tries_135 rfl (by decide) (fun h135 => ?_) (fun h135 => ?_)
    · exact absurd h135 (by omega)
    · skip
      refine q_aload_n (n := 139) dX8_tries_138 rfl rfl ?_
      refine q_getIE (W) (kI := 26) (n := 142) (by decide) dX8_tries_139 rfl fX8_281 mi0 rfl rfl hW ?_
      refine q_if_ne (n := 145) (t := 165) dX8_tries_142 rfl (by decide) (fun h142 => ?_) (fun h142 => ?_)
      · skip
        exact hQ s _ (fun z => absurd z h142) (fun _ _ => rfl) (fun _ _ _ => rfl)
      · skip
        refine q_aload_n (n := 146) dX8_tries_145 rfl rfl ?_
        refine q_getR (n := 149) dX8_tries_146 rfl fX8_60 mi0 rfl ?_
        refine q_iload (n := 151) dX8_tries_149 rfl rfl ?_
        refine q_aload_n (n := 152) dX8_tries_151 rfl rfl ?_
        refine q_getR (n := 155) dX8_tries_152 rfl fX8_57 mi0 rfl ?_
        refine q_iload (n := 157) dX8_tries_155 rfl rfl ?_
        refine q_ialoadE (s 12 i) (n := 158) dX8_tries_157 rfl mi12 ⟨by omega, by omega⟩ rfl ?_
        refine q_iastore (n := 159) dX8_tries_158 rfl mi13 ⟨by omega, by omega⟩ ?_
        first
          | rw [om_up rfl]
          | skip
        refine q_iinc (n := 162) dX8_tries_159 rfl (Nat.le_of_ble_eq_true rfl) rfl (q_nwid ⟨by omega, by omega⟩) (q_s1_s (q_s1_s (q_s1_s (q_s1_s (q_s1_s (q_s1_1 rfl)))))) ?_
        refine q_go (t := 129) dX8_tries_162 (by decide) ?_
        first
          | (have hw0 : W = 0 := by omega
             refine ih (i + 1) _ (by omega) (by omega) ((q_up_n (by omega)).trans hK) ((q_up_n (by omega)).trans hW) (fun _ x x0 x1 => ?_) (fun s' o6 b1 b2 b3 => hQ s' o6 (fun z x x0 x1 => (b1 z x x0 x1).trans (q_up_n (by omega))) (fun z => absurd hw0 z) (fun c x hc => (b3 c x hc).trans (q_up_n (fun z => hc z.1))))
             by_cases e : x = i
             · rw [e, q_up_s, q_up_n (by omega)]
             · rw [q_up_n (fun z => e z.2), q_up_n (by omega)]
               exact hf hw0 x x0 (by omega))
set_option maxRecDepth 100000 in
theorem lpX8_t4 (σ s : q_S) (v L k u w W : Int) (o6 : Option q_V) (hW : s 0 26 = W) (hb : 0 ≤ W ∧ W < 1000001) : q_WP (mX8_tries 0) shM 165 [some (.inr (.inr 0)), some (.inl v), some (.inl L), some (.inl k), some (.inl u), some (.inl w), o6] [] (ovM σ s) (fun r σ' => r = none ∧ σ' = ovM σ (q_up s 0 26 (W + 1))) := by
  skip
  refine q_aload_n (n := 166) dX8_tries_165 rfl rfl ?_
  refine q_dup (n := 167) dX8_tries_166 rfl rfl ?_
  refine q_getIE (W) (kI := 26) (n := 170) (by decide) dX8_tries_167 rfl fX8_281 mi0 rfl rfl hW ?_
  refine q_iconst (n := 171) dX8_tries_170 rfl (k := ?_)
  refine q_iaddS (n := 172) dX8_tries_171 rfl ⟨by omega, by omega⟩ ?_
  refine q_putI (kI := 26) (n := 175) dX8_tries_172 rfl pX8_281 mi0 rfl rfl ?_
  rw [om_up rfl]
  refine q_vret dX8_tries_175 rfl ?_
  exact ⟨rfl, rfl⟩
set_option maxHeartbeats 1000000 in
set_option maxRecDepth 100000 in
theorem lpX8_t3 (σ s : q_S) (v L k u w lost K : Int) (A : q_A5) (P : (Int → Int) → Bool) (S : q_W3) (hI : IM σ) (hv : 0 ≤ v ∧ v < σ 1 2) (hA : okA (pM (σ 1) 3) (σ 1 1) (pM (σ 1) 6 v) lost K A) (o6 : Option q_V) (hkK : k = K) (hK0 : 0 ≤ K) (htr : trM K k s S) (ha : askK s A (pM (σ 1) 6 v) lost K) (htd : tdM s (pM (σ 1) 3) (σ 1 1)) (hnm : nmK s (σ 1 1) (pM (σ 1) 6 v) (pM (σ 1) 7 v)) (hw : w = -1 ∨ 0 ≤ w ∧ w < 12) (hu : (pM (σ 1) 6 v) = -1 → 0 ≤ u ∧ u < 12) (hP : lawB L (fun q => loT (s 10) (σ 1 1) (pM (σ 1) 6 v) (pM (σ 1) 7 v) u w q) = true ↔ P S.1 = true) (hb : S.2.2 + 1 ≤ 1000000) : q_WP (mX8_tries 0) shM 112 [some (.inr (.inr 0)), some (.inl v), some (.inl L), some (.inl k), some (.inl u), some (.inl w), o6] [] (ovM σ s) (fun r σ' => r = none ∧ (∃ s', σ' = ovM σ s' ∧ trM K k s' (enL P S) ∧ askK s' A (pM (σ 1) 6 v) lost K ∧ tdM s' (pM (σ 1) 3) (σ 1 1))) := by
  have hk5 := hA.2.2.2.2
  refine q_aload_n (n := 113) dX8_tries_112 rfl rfl ?_
  refine q_iload_n (n := 114) dX8_tries_113 rfl rfl ?_
  refine q_iload_n (n := 115) dX8_tries_114 rfl rfl ?_
  refine q_iload (n := 117) dX8_tries_115 rfl rfl ?_
  refine q_iload (n := 119) dX8_tries_117 rfl rfl ?_
  refine q_v4D (n := 122) dX8_tries_119 rfl (zX8_isHeld v _ _ _ σ _ hI hv hnm hw hu) vX8_isHeld lX8_274 rfl rfl mi0 rfl ?_
  refine q_if_ne (n := 125) (t := 126) dX8_tries_122 rfl (by decide) (fun h122 => ?_) (fun h122 => ?_)
  · have h122 := q_b1.mp h122
    refine q_iconst (n := 127) dX8_tries_126 rfl (k := ?_)
    refine q_istore (n := 129) dX8_tries_127 rfl (Nat.le_of_ble_eq_true rfl) (q_s1_s (q_s1_s (q_s1_s (q_s1_s (q_s1_s (q_s1_1 rfl)))))) ?_
    refine lpX8_t2 σ v L k u w K (s 0 26) _ hk5 K.toNat 0 s (by omega) (by decide) ha.1 rfl (fun _ x x0 x1 => by omega) (fun s' o6 b1 b2 b3 => ?_)
    have hp : P S.1 = true := hP.mp h122
    have e26 : s' 0 26 = S.2.2 := (b3 0 26 (by decide)).trans htr.2.1
    refine (lpX8_t4 σ s' v L k u w S.2.2 o6 e26 ⟨htr.2.2.2.1, by omega⟩).imp ?_
    rintro r σ2 ⟨hr, hs2⟩
    refine ⟨hr, q_up s' 0 26 (S.2.2 + 1), hs2, ?_, askK_o ha ((q_up_n (by omega)).trans (b3 0 23 (by decide))) (fun x => (q_up_n (by omega)).trans (b3 11 x (by decide))), tdM_o htd (fun x => (q_up_n (by omega)).trans (b3 10 x (by decide)))⟩
    unfold enL
    rw [if_pos hp]
    refine ⟨fun x x0 x1 => ?_, q_up_s, fun _ x x0 x1 => ?_, ?_, htr.2.2.2.2⟩
    · rw [q_up_n (by omega), b3 12 x (by decide)]
      exact htr.1 x x0 x1
    · rw [q_up_n (by omega)]
      show s' 13 x = (if S.2.2 = 0 then S.1 else S.2.1) x
      have e0 : s 0 26 = S.2.2 := htr.2.1
      by_cases e : S.2.2 = 0
      · rw [if_pos e, b1 (by omega) x x0 x1]
        exact htr.1 x x0 (by omega)
      · rw [if_neg e, b2 (by omega) x]
        exact htr.2.2.1 e x x0 x1
    · show 0 ≤ S.2.2 + 1
      have := htr.2.2.2.1
      omega
  · have h122 := q_b0.mp h122
    refine q_vret dX8_tries_125 rfl ?_
    have hn : ¬ P S.1 = true := fun z => h122 (hP.mpr z)
    refine ⟨rfl, s, rfl, ?_, ha, htd⟩
    unfold enL
    rw [if_neg hn]
    exact htr
set_option maxHeartbeats 1000000 in
set_option maxRecDepth 100000 in
theorem lpX8_tr (σ : q_S) (v L lost K : Int) (A : q_A5) (P : (Int → Int) → Bool) (ch : Int → Int) (hI : IM σ) (hv : 0 ≤ v ∧ v < σ 1 2) (hA : okA (pM (σ 1) 3) (σ 1 1) (pM (σ 1) 6 v) lost K A) (n : Nat) (ih : ∀ (k : Int) (S : q_W3) (s : q_S), (n : Int) + k = K → 0 ≤ k → trM K k s S → askK s A (pM (σ 1) 6 v) lost K → tdM s (pM (σ 1) 3) (σ 1 1) → S.2.2 + 12 ^ n ≤ 1000000 → q_Ct (mX8_tries n) shM [.inr (.inr 0), .inl v, .inl L, .inl k] (ovM σ s) (fun r σ' => r = none ∧ (∃ s', σ' = ovM σ s' ∧ trM K k s' (enum ch P n k S) ∧ askK s' A (pM (σ 1) 6 v) lost K ∧ tdM s' (pM (σ 1) 3) (σ 1 1)))) (k : Int) (hk : (n : Int) + 1 + k = K) (hk0 : 0 ≤ k) : ∀ (m : Nat) (i : Int) (S : q_W3) (s : q_S), (m : Int) + i = 12 → 0 ≤ i → trM K k s S → askK s A (pM (σ 1) 6 v) lost K → tdM s (pM (σ 1) 3) (σ 1 1) → S.2.2 + m * 12 ^ n ≤ 1000000 → q_WP (mX8_tries (n + 1)) shM 204 [some (.inr (.inr 0)), some (.inl v), some (.inl L), some (.inl k), some (.inl (ch k)), some (.inl i), none] [] (ovM σ s) (fun r σ' => r = none ∧ (∃ s', σ' = ovM σ s' ∧ trM K k s' (kfold (fun kd s => if num kd 0 = ch k then enum ch P n (k + 1) (ud s.1 k kd, s.2) else s) m i S) ∧ askK s' A (pM (σ 1) 6 v) lost K ∧ tdM s' (pM (σ 1) 3) (σ 1 1))) := by
  have hk5 := hA.2.2.2.2
  intro m
  induction m with
  | zero =>
    intro i S s hi h0 htr ha htd hb
    refine q_iload (n := 206) dX8_tries_204 rfl rfl ?_
    refine q_bipush (n := 208) dX8_tries_206 rfl (k := ?_)
    refine q_icmp_ge (n := 211) (t := 248) dX8_tries_208 rfl (by decide) (fun h208 => ?_) (fun h208 => ?_)
    · skip
      refine q_vret dX8_tries_248 rfl ?_
      exact ⟨rfl, s, rfl, htr, ha, htd⟩
    · exact absurd h208 (by omega)
  | succ m ihm =>
    intro i S s hi h0 htr ha htd hb
    have hcg := (hI.2.2.1 i h0 (by omega)).1.1
    have hnb := num_bd (k := i) (j := 0) ⟨h0, by omega⟩ (by decide)
    unfold q_bd at hnb
    have e12 : ((m + 1 : Nat) : Int) * 12 ^ n = m * 12 ^ n + 12 ^ n := by rw [Int.natCast_succ, Int.add_mul, Int.one_mul]
    rw [e12] at hb
    have hp1 : (0 : Int) < 12 ^ n := Int.pow_pos (by decide)
    have hp2 : (0 : Int) ≤ m * 12 ^ n := Int.mul_nonneg (by omega) (Int.le_of_lt hp1)
    refine q_iload (n := 206) dX8_tries_204 rfl rfl ?_
    refine q_bipush (n := 208) dX8_tries_206 rfl (k := ?_)
    refine q_icmp_ge (n := 211) (t := 248) dX8_tries_208 rfl (by decide) (fun h208 => ?_) (fun h208 => ?_)
    · exact absurd h208 (by omega)
    · skip
      refine q_aload_n (n := 212) dX8_tries_211 rfl rfl ?_
      refine q_getR (n := 215) dX8_tries_212 rfl fX8_27 mi0 rfl ?_
      refine q_iload (n := 217) dX8_tries_215 rfl rfl ?_
      refine q_ialoadF (σ 2) (n := 218) dX8_tries_217 rfl mi2 ⟨by omega, by omega⟩ rfl ?_
      refine q_topI (num i 0 + 1) hcg ?_
      refine q_iconst (n := 219) dX8_tries_218 rfl (k := ?_)
      refine q_isubS (n := 220) dX8_tries_219 rfl ⟨by omega, by omega⟩ ?_
      refine q_topI (num i 0) (by omega) ?_
      refine q_iload (n := 222) dX8_tries_220 rfl rfl ?_
      refine q_icmp_ne (n := 225) (t := 242) dX8_tries_222 rfl (by decide) (fun h222 => ?_) (fun h222 => ?_)
      · have h222 : ¬ num i 0 = ch k := h222
        refine q_iinc (n := 245) dX8_tries_242 rfl (Nat.le_of_ble_eq_true rfl) rfl (q_nwid ⟨by omega, by omega⟩) (q_s1_s (q_s1_s (q_s1_s (q_s1_s (q_s1_1 rfl))))) ?_
        refine q_go (t := 204) dX8_tries_245 (by decide) ?_
        first
          | (rw [kfold, if_neg h222]
             exact ihm (i + 1) S s (by omega) (by omega) htr ha htd (by omega))
          | (rw [kfold, if_pos h222]
             exact ihm (i + 1) _ s2 (by omega) (by omega) (trM_mono htr2 (by omega)) ha2 htd2 (by omega))
      · have h222 : num i 0 = ch k := h222
        refine q_aload_n (n := 226) dX8_tries_225 rfl rfl ?_
        refine q_getR (n := 229) dX8_tries_226 rfl fX8_57 mi0 rfl ?_
        refine q_iload_n (n := 230) dX8_tries_229 rfl rfl ?_
        refine q_iload (n := 232) dX8_tries_230 rfl rfl ?_
        refine q_iastore (n := 233) dX8_tries_232 rfl mi12 ⟨by omega, by omega⟩ ?_
        rw [om_up rfl]
        refine q_aload_n (n := 234) dX8_tries_233 rfl rfl ?_
        refine q_iload_n (n := 235) dX8_tries_234 rfl rfl ?_
        refine q_iload_n (n := 236) dX8_tries_235 rfl rfl ?_
        refine q_iload_n (n := 237) dX8_tries_236 rfl rfl ?_
        refine q_iconst (n := 238) dX8_tries_237 rfl (k := ?_)
        refine q_iaddS (n := 239) dX8_tries_238 rfl ⟨by omega, by omega⟩ ?_
        refine q_v3W (n := 242) dX8_tries_239 rfl (ih (k + 1) (ud S.1 k i, S.2) (q_up s 12 k i) (by omega) (by omega) (trM_ud htr hk0 ⟨h0, by omega⟩) (askK_o ha (q_up_n (by omega)) (fun x => q_up_n (by omega))) (tdM_o htd (fun x => q_up_n (by omega))) (by show S.2.2 + 12 ^ n ≤ 1000000; omega)) (vX8_tries _) lX8_284 (Nat.ble_eq_true_of_le (by show n + 3 + 1 ≤ n + 1 + 3; omega)) rfl mi0 rfl (fun σ239 h239 => ?_)
        obtain ⟨s2, rfl, htr2, ha2, htd2⟩ := h239
        have hle := (enum_le (ch := ch) (P := P) n (k + 1) (ud S.1 k i, S.2)).2
        have hle : (enum ch P n (k + 1) (ud S.1 k i, S.2)).2.2 ≤ S.2.2 + 12 ^ n := hle
        · skip
          refine q_iinc (n := 245) dX8_tries_242 rfl (Nat.le_of_ble_eq_true rfl) rfl (q_nwid ⟨by omega, by omega⟩) (q_s1_s (q_s1_s (q_s1_s (q_s1_s (q_s1_1 rfl))))) ?_
          refine q_go (t := 204) dX8_tries_245 (by decide) ?_
          first
            | (rw [kfold, if_neg h222]
               exact ihm (i + 1) S s (by omega) (by omega) htr ha htd (by omega))
            | (rw [kfold, if_pos h222]
               exact ihm (i + 1) _ s2 (by omega) (by omega) (trM_mono htr2 (by omega)) ha2 htd2 (by omega))
set_option maxHeartbeats 1000000 in
set_option maxRecDepth 100000 in
theorem zX8_tries (σ : q_S) (v L lost K : Int) (A : q_A5) (P : (Int → Int) → Bool) (ch : Int → Int) (hI : IM σ) (hv : 0 ≤ v ∧ v < σ 1 2) (hA : okA (pM (σ 1) 3) (σ 1 1) (pM (σ 1) 6 v) lost K A) (hch : ∀ x, 0 ≤ x → x < K → (x < A.2.2.2.2 → ch x = sgn (lB (pM (σ 1) 2) (6 * A.2.1 x))) ∧ (A.2.2.2.2 ≤ x → ch x = 0)) (hP : ∀ (nm row : Int → Int), (∀ t, 0 ≤ t → t < (σ 1 1) → (pM (σ 1) 3) t ≠ 12 → nm t = (pM (σ 1) 3) t) → (∀ x, 0 ≤ x → x < A.2.2.2.2 → nm (A.2.1 x) = row x) → (lost = 1 → 0 ≤ row (K - 1)) → (lawB L (fun q => loT nm (σ 1 1) (pM (σ 1) 6 v) (pM (σ 1) 7 v) (if (pM (σ 1) 6 v) = -1 then row A.2.2.2.2 else -1) (if lost = 1 then row (K - 1) else -1) q) = true ↔ P row = true)) (hcov : ∀ t, 0 ≤ t → t < (σ 1 1) → (t = (pM (σ 1) 6 v) ∨ q_and (q_shr (pM (σ 1) 7 v) t) 1 = 1) → (pM (σ 1) 3) t = 12 → ∃ x, 0 ≤ x ∧ x < A.2.2.2.2 ∧ A.2.1 x = t) : ∀ n : Nat, ∀ (k : Int) (S : q_W3) (s : q_S), (n : Int) + k = K → 0 ≤ k → trM K k s S → askK s A (pM (σ 1) 6 v) lost K → tdM s (pM (σ 1) 3) (σ 1 1) → S.2.2 + 12 ^ n ≤ 1000000 → q_Ct (mX8_tries n) shM [.inr (.inr 0), .inl v, .inl L, .inl k] (ovM σ s) (fun r σ' => r = none ∧ (∃ s', σ' = ovM σ s' ∧ trM K k s' (enum ch P n k S) ∧ askK s' A (pM (σ 1) 6 v) lost K ∧ tdM s' (pM (σ 1) 3) (σ 1 1))) := by
  have hk0 := hA.2.2.1
  have hk5 := hA.2.2.2.2
  have hd := hA.2.2.2.1
  unfold disK at hd
  have hn := hI.nt
  intro n
  induction n with
  | zero =>
    intro k S s hk h0 htr ha htd hb
    refine q_ct 3 (by decide) rfl rfl ?_
    show q_WP (mX8_tries 0) shM 0 [some (.inr (.inr 0)), some (.inl v), some (.inl L), some (.inl k), none, none, none] [] (ovM σ s) _
    refine q_iload_n (n := 1) dX8_tries_0 rfl rfl ?_
    refine q_aload_n (n := 2) dX8_tries_1 rfl rfl ?_
    refine q_getIE (K) (kI := 23) (n := 5) (by decide) dX8_tries_2 rfl fX8_278 mi0 rfl rfl ha.1 ?_
    refine q_icmp_ne (n := 8) (t := 176) dX8_tries_5 rfl (by decide) (fun h5 => ?_) (fun h5 => ?_)
    · exact absurd ‹¬ _› (by omega)
    · skip
      refine q_iconst (n := 9) dX8_tries_8 rfl (k := ?_)
      refine q_istore (n := 11) dX8_tries_9 rfl (Nat.le_of_ble_eq_true rfl) (q_s1_s (q_s1_s (q_s1_s (q_s1_1 rfl)))) ?_
      refine q_iconst (n := 12) dX8_tries_11 rfl (k := ?_)
      refine q_istore (n := 14) dX8_tries_12 rfl (Nat.le_of_ble_eq_true rfl) (q_s1_s (q_s1_s (q_s1_s (q_s1_s (q_s1_1 rfl))))) ?_
      refine q_iconst (n := 15) dX8_tries_14 rfl (k := ?_)
      refine q_istore (n := 17) dX8_tries_15 rfl (Nat.le_of_ble_eq_true rfl) (q_s1_s (q_s1_s (q_s1_s (q_s1_s (q_s1_s (q_s1_1 rfl)))))) ?_
      refine lpX8_t1 σ v L k lost K A hI hv hA S.1 _ K.toNat 0 (-1) (-1) s (by omega) (by decide) ha (ag_mono htr.1 (by omega)) htd (fun x x0 x1 => by omega) (by rw [if_neg (by omega)]) (by rw [if_neg (by omega)]) (fun s' o6 b1 b2 b3 => ?_)
      have htr' : trM K k s' S := trM_o htr (b3 0 26 (by decide)) (fun x => b3 12 x (by decide)) (fun x => b3 13 x (by decide))
      have hr := htr.2.2.2.2
      have hnm : nmK s' (σ 1 1) (pM (σ 1) 6 v) (pM (σ 1) 7 v) := by
        intro t t0 t1 hb
        by_cases e : (pM (σ 1) 3) t = 12
        · obtain ⟨x, x0, x1, x2⟩ := hcov t t0 t1 hb e
          rw [← x2, b2 x x0 x1]
          exact hr x x0 (by omega)
        · rw [b1 t t0 t1 e]
          have := hI.kd ⟨t0, t1⟩
          omega
      have hwp : lost = 1 → 0 ≤ S.1 (K - 1) ∧ S.1 (K - 1) < 12 := fun z => hr (K - 1) (by omega) (by omega)
      refine lpX8_t3 σ s' v L k _ _ lost K A P S hI hv hA o6 (by omega) (by omega) htr' (askK_o ha (b3 0 23 (by decide)) (fun x => b3 11 x (by decide))) b1 hnm ?_ (fun z => ?_) (hP (s' 10) S.1 b1 b2 (fun z => (hwp z).1)) (by rw [show (12 : Int) ^ 0 = 1 from rfl] at hb; exact hb)
      · by_cases e : lost = 1
        · rw [if_pos e]
          exact Or.inr (hwp e)
        · rw [if_neg e]
          exact Or.inl rfl
      · rw [if_pos z]
        exact hr _ hk0 (by omega)
  | succ n ih =>
    intro k S s hk h0 htr ha htd hb
    have hc := askK_at ha hA (i := k) ⟨h0, by omega⟩
    have hcc := hch k h0 (by omega)
    refine q_ct 3 (by rfl) rfl rfl ?_
    show q_WP (mX8_tries (n + 1)) shM 0 [some (.inr (.inr 0)), some (.inl v), some (.inl L), some (.inl k), none, none, none] [] (ovM σ s) _
    refine q_iload_n (n := 1) dX8_tries_0 rfl rfl ?_
    refine q_aload_n (n := 2) dX8_tries_1 rfl rfl ?_
    refine q_getIE (K) (kI := 23) (n := 5) (by decide) dX8_tries_2 rfl fX8_278 mi0 rfl rfl ha.1 ?_
    refine q_icmp_ne (n := 8) (t := 176) dX8_tries_5 rfl (by decide) (fun h5 => ?_) (fun h5 => ?_)
    · skip
      refine q_aload_n (n := 177) dX8_tries_176 rfl rfl ?_
      refine q_getR (n := 180) dX8_tries_177 rfl fX8_54 mi0 rfl ?_
      refine q_iload_n (n := 181) dX8_tries_180 rfl rfl ?_
      refine q_ialoadE (s 11 k) (n := 182) dX8_tries_181 rfl mi11 ⟨by omega, by omega⟩ rfl ?_
      refine q_if_ge (n := 185) (t := 189) dX8_tries_182 rfl (by decide) (fun h182 => ?_) (fun h182 => ?_)
      · have hcs : ch k = sgn (lB (pM (σ 1) 2) (6 * s 11 k)) := by
          rcases hc with c | c | c
          · rw [c.2.1]
            exact hcc.1 c.1
          · omega
          · omega
        refine q_aload_n (n := 190) dX8_tries_189 rfl rfl ?_
        refine q_aload_n (n := 191) dX8_tries_190 rfl rfl ?_
        refine q_getR (n := 194) dX8_tries_191 rfl fX8_54 mi0 rfl ?_
        refine q_iload_n (n := 195) dX8_tries_194 rfl rfl ?_
        refine q_ialoadE (s 11 k) (n := 196) dX8_tries_195 rfl mi11 ⟨by omega, by omega⟩ rfl ?_
        refine q_v1D (n := 199) dX8_tries_196 rfl (zX8_turnOf _ σ _ hI ⟨by omega, by omega⟩) vX8_turnOf lX8_109 rfl rfl mi0 rfl ?_
        first
          | refine q_topI (ch k) hcz.symm ?_
          | refine q_topI (ch k) hcs.symm ?_
        refine q_istore (n := 201) dX8_tries_199 rfl (Nat.le_of_ble_eq_true rfl) (q_s1_s (q_s1_s (q_s1_s (q_s1_1 rfl)))) ?_
        refine q_iconst (n := 202) dX8_tries_201 rfl (k := ?_)
        refine q_istore (n := 204) dX8_tries_202 rfl (Nat.le_of_ble_eq_true rfl) (q_s1_s (q_s1_s (q_s1_s (q_s1_s (q_s1_1 rfl))))) ?_
        rw [enum]
        exact lpX8_tr σ v L lost K A P ch hI hv hA n ih k (by omega) h0 12 0 S s (by decide) (by decide) htr ha htd (by rw [Int.pow_succ] at hb; omega)
      · have hcz : ch k = 0 := hcc.2 (by omega)
        refine q_iconst (n := 186) dX8_tries_185 rfl (k := ?_)
        refine q_go (t := 199) dX8_tries_186 (by decide) ?_
        first
          | refine q_topI (ch k) hcz.symm ?_
          | refine q_topI (ch k) hcs.symm ?_
        refine q_istore (n := 201) dX8_tries_199 rfl (Nat.le_of_ble_eq_true rfl) (q_s1_s (q_s1_s (q_s1_s (q_s1_1 rfl)))) ?_
        refine q_iconst (n := 202) dX8_tries_201 rfl (k := ?_)
        refine q_istore (n := 204) dX8_tries_202 rfl (Nat.le_of_ble_eq_true rfl) (q_s1_s (q_s1_s (q_s1_s (q_s1_s (q_s1_1 rfl))))) ?_
        rw [enum]
        exact lpX8_tr σ v L lost K A P ch hI hv hA n ih k (by omega) h0 12 0 S s (by decide) (by decide) htr ha htd (by rw [Int.pow_succ] at hb; omega)
    · exact absurd ‹_ = _› (by omega)
