theorem lB_c {f f' : Int → Int} {t : Int} (h : ∀ j : Int, 0 ≤ j → f j = f' j) (ht : 0 ≤ t) : lB f (6 * t) = lB f' (6 * t) := by
  unfold lB
  rw [h (6 * t) (by omega), h (6 * t + 1) (by omega), h (6 * t + 2) (by omega), h (6 * t + 3) (by omega), h (6 * t + 4) (by omega), h (6 * t + 5) (by omega)]
theorem engy_c {f f' : Int → Int} {F x y t k : Int} (h : ∀ j : Int, 0 ≤ j → f j = f' j) (ht : 0 ≤ t) : engy f F x y t k = engy f' F x y t k := by
  unfold engy pX pY un lA lU
  rw [lB_c h ht, h (6 * t) (by omega), h (6 * t + 1) (by omega), h (6 * t + 2) (by omega), h (6 * t + 3) (by omega), h (6 * t + 4) (by omega), h (6 * t + 5) (by omega)]
theorem htL_c {f f' kd kd' g : Int → Int} {F x y a : Int} (h : ∀ j : Int, 0 ≤ j → f j = f' j) (hk : ∀ j : Int, 0 ≤ j → kd j = kd' j) : ∀ (n : Nat) (i e : Int), (∀ j, i ≤ j → j < i + n → 0 ≤ g j) → htL f F x y a kd g n i e = htL f' F x y a kd' g n i e := by
  intro n
  induction n with
  | zero => intro i e _; rfl
  | succ n ih =>
    intro i e hg
    have g0 := hg i (by omega) (by omega)
    rw [htL, htL, hk _ g0, engy_c h g0, ih (i + 1) _ (fun j h1 h2 => hg j (by omega) (by omega))]
theorem balL_c {f f' g : Int → Int} (h : ∀ j : Int, 0 ≤ j → f j = f' j) : ∀ (n : Nat) (i : Int), (∀ j, i ≤ j → j < i + n → 0 ≤ g j) → balL f g n i = balL f' g n i := by
  intro n
  induction n with
  | zero => intro i _; rfl
  | succ n ih =>
    intro i hg
    have g0 := hg i (by omega) (by omega)
    rw [balL, balL, lB_c h g0, ih (i + 1) (fun j h1 h2 => hg j (by omega) (by omega))]
theorem tlL_c {kd kd' g : Int → Int} (hk : ∀ j : Int, 0 ≤ j → kd j = kd' j) : ∀ (n : Nat) (i : Int), (∀ j, i ≤ j → j < i + n → 0 ≤ g j) → tlL kd g n i = tlL kd' g n i := by
  intro n
  induction n with
  | zero => intro i _; rfl
  | succ n ih =>
    intro i hg
    have g0 := hg i (by omega) (by omega)
    rw [tlL, tlL, hk _ g0, ih (i + 1) (fun j h1 h2 => hg j (by omega) (by omega))]
section FD
variable {σ : q_S} {c : Int}
theorem fd_n {j : Int} (h : j ≠ 0) : q_up σ 1 0 c 1 j = σ 1 j := q_up_n (fun z => h z.2)
theorem fd_f {j : Int} (h : 0 ≤ j) : pM (q_up σ 1 0 c 1) 2 j = pM (σ 1) 2 j := fd_n (by omega)
theorem fd_k {j : Int} (h : 0 ≤ j) : pM (q_up σ 1 0 c 1) 3 j = pM (σ 1) 3 j := by
  show (if q_up σ 1 0 c 1 (51 + j) = -1 then 12 else q_up σ 1 0 c 1 (51 + j)) = (if σ 1 (51 + j) = -1 then 12 else σ 1 (51 + j))
  rw [fd_n (by omega)]
theorem fd_4 {v : Int} (h : 0 ≤ v) : pM (q_up σ 1 0 c 1) 4 v = pM (σ 1) 4 v := fd_n (by omega)
theorem fd_5 {v : Int} (h : 0 ≤ v) : pM (q_up σ 1 0 c 1) 5 v = pM (σ 1) 5 v := fd_n (by omega)
theorem fd_6 {v : Int} (h : 0 ≤ v) : pM (q_up σ 1 0 c 1) 6 v = pM (σ 1) 6 v := fd_n (by omega)
theorem fd_7 {v : Int} (h : 0 ≤ v) : pM (q_up σ 1 0 c 1) 7 v = pM (σ 1) 7 v := fd_n (by omega)
theorem IM_fd (hI : IM σ) (hc : 1 ≤ c ∧ c ≤ 9) : IM (q_up σ 1 0 c) := by
  obtain ⟨⟨h1, h2, h3, h4, h5, h6⟩, i2, i3, i4⟩ := hI
  refine ⟨⟨hc, h2, h3, fun t t0 t1 => ?_, fun t t0 t1 => ?_, fun v v0 v1 => ?_⟩, fun t t0 t1 => ?_, i3, i4⟩
  · have := h4 t t0 t1
    have e : ∀ j : Int, 0 ≤ j → pM (q_up σ 1 0 c 1) 2 j = pM (σ 1) 2 j := fun j hj => fd_f hj
    unfold lG unl at *
    rw [e (6 * t) (by omega), e (6 * t + 1) (by omega), e (6 * t + 2) (by omega), e (6 * t + 3) (by omega), e (6 * t + 4) (by omega), e (6 * t + 5) (by omega)]
    exact this
  · rw [fd_k t0]
    exact h5 t t0 t1
  · rw [fd_4 v0, fd_5 v0, fd_6 v0, fd_7 v0]
    exact h6 v v0 v1
  · rw [fd_n (by omega)]
    exact i2 t t0 t1
end FD
theorem fd_hot {σ : q_S} {c v : Int} (hI : IM σ) (hv : 0 ≤ v ∧ v < σ 1 2) (hh : hotB (σ 1 1) (σ 1 2) (pM (σ 1) 2) (pM (σ 1) 3) (pM (σ 1) 6) (pM (σ 1) 7) v = true) : hotB (q_up σ 1 0 c 1 1) (q_up σ 1 0 c 1 2) (pM (q_up σ 1 0 c 1) 2) (pM (q_up σ 1 0 c 1) 3) (pM (q_up σ 1 0 c 1) 6) (pM (q_up σ 1 0 c 1) 7) v = true := by
  have hn := hI.nt
  have hvv := hI.nv
  have hvt := hI.tie hv
  have hmc := mem_C hn hvt.2.2
  have e1 : q_up σ 1 0 c 1 1 = σ 1 1 := fd_n (by decide)
  have e2 : q_up σ 1 0 c 1 2 = σ 1 2 := fd_n (by decide)
  have hz := hotB_t.mp hh
  refine hotB_t.mpr ?_
  unfold hot balb tlb at *
  rw [e1, e2, fd_6 hv.1, fd_7 hv.1, balL_c (f' := (pM (σ 1) 2)) (fun j hj => fd_f hj) _ _ (fun j h1 h2 => (hI.mem hv ⟨h1, by omega⟩).1), tlL_c (kd' := (pM (σ 1) 3)) (fun j hj => fd_k hj) _ _ (fun j h1 h2 => (hI.mem hv ⟨h1, by omega⟩).1)]
  exact hz
theorem fd_hev {σ : q_S} {c v : Int} (hI : IM σ) (hv : 0 ≤ v ∧ v < σ 1 2) : hev (pM (q_up σ 1 0 c 1) 2) (pM (q_up σ 1 0 c 1) 3) (q_up σ 1 0 c 1 1) (pM (q_up σ 1 0 c 1) 4 v) (pM (q_up σ 1 0 c 1) 5 v) (pM (q_up σ 1 0 c 1) 6 v) (pM (q_up σ 1 0 c 1) 7 v) (q_up σ 1 0 c 1 0) = (hev (pM (σ 1) 2) (pM (σ 1) 3) (σ 1 1) (pM (σ 1) 4 v) (pM (σ 1) 5 v) (pM (σ 1) 6 v) (pM (σ 1) 7 v) (c)) := by
  have hn := hI.nt
  have hvv := hI.nv
  have hvt := hI.tie hv
  have hmc := mem_C hn hvt.2.2
  have e1 : q_up σ 1 0 c 1 1 = σ 1 1 := fd_n (by decide)
  unfold hev
  rw [q_up_s, e1, fd_4 hv.1, fd_5 hv.1, fd_6 hv.1, fd_7 hv.1, htL_c (f' := (pM (σ 1) 2)) (kd' := (pM (σ 1) 3)) (fun j hj => fd_f hj) (fun j hj => fd_k hj) _ _ _ (fun j h1 h2 => (hI.mem hv ⟨h1, by omega⟩).1)]
theorem zF_heatOf (v c : Int) (σ s : q_S) (hI : IM σ) (hv : 0 ≤ v ∧ v < σ 1 2) (hh : hotB (σ 1 1) (σ 1 2) (pM (σ 1) 2) (pM (σ 1) 3) (pM (σ 1) 6) (pM (σ 1) 7) v = true) (hc : 1 ≤ c ∧ c ≤ 9) : q_Ct mX8_heatOf shM [.inr (.inr 0), .inl v] (ovM (q_up σ 1 0 c) s) (fun r σ' => ∃ z, r = some z ∧ (z = .inr (.inl (hev (pM (σ 1) 2) (pM (σ 1) 3) (σ 1 1) (pM (σ 1) 4 v) (pM (σ 1) 5 v) (pM (σ 1) 6 v) (pM (σ 1) 7 v) (c))) ∧ ∃ s', σ' = ovM (q_up σ 1 0 c) s')) := by
  have h := zX8_heatOf v (q_up σ 1 0 c) s (IM_fd hI hc) hv (fd_hot hI hv hh)
  rw [fd_hev hI hv] at h
  exact h
set_option maxRecDepth 100000 in
theorem lpX8_ev (σ : q_S) (v : Int) (hI : IM σ) (hv : 0 ≤ v ∧ v < σ 1 2) (hh : hotB (σ 1 1) (σ 1 2) (pM (σ 1) 2) (pM (σ 1) 3) (pM (σ 1) 6) (pM (σ 1) 7) v = true) : ∀ (n : Nat) (i b l c : Int) (a : Int × Int) (s : q_S) (o7 o9 : Option q_V), (n : Int) + i = 10 → 1 ≤ i → (i = 1 ∧ b = 0 ∨ 2 ≤ i ∧ b = a.2 ∧ 1 ≤ b ∧ l = a.1) → q_WP mX8_evens shM 36 [some (.inr (.inr 0)), some (.inl v), some (.inl (σ 1 0)), some (.inl b), some (.inr (.inl l)), none, some (.inl i), o7, none, o9, none] [] (ovM (q_up σ 1 0 c) s) (fun r σ' => r = some (.inl (if i = 1 then evL (hev (pM (σ 1) 2) (pM (σ 1) 3) (σ 1 1) (pM (σ 1) 4 v) (pM (σ 1) 5 v) (pM (σ 1) 6 v) (pM (σ 1) 7 v)) 8 2 (ab ((hev (pM (σ 1) 2) (pM (σ 1) 3) (σ 1 1) (pM (σ 1) 4 v) (pM (σ 1) 5 v) (pM (σ 1) 6 v) (pM (σ 1) 7 v)) 1), 1) else evL (hev (pM (σ 1) 2) (pM (σ 1) 3) (σ 1 1) (pM (σ 1) 4 v) (pM (σ 1) 5 v) (pM (σ 1) 6 v) (pM (σ 1) 7 v)) n i a).2) ∧ ∃ s', σ' = ovM σ s') := by
  intro n
  induction n with
  | zero =>
    intro i b l c a s o7 o9 hi h0 hab
    refine q_iload (n := 38) dX8_evens_36 rfl rfl ?_
    refine q_bipush (n := 40) dX8_evens_38 rfl (k := ?_)
    refine q_icmp_gt (n := 43) (t := 100) dX8_evens_40 rfl (by decide) (fun h40 => ?_) (fun h40 => ?_)
    · skip
      refine q_aload_n (n := 101) dX8_evens_100 rfl rfl ?_
      refine q_getR (n := 104) dX8_evens_101 rfl fX8_23 mi0 rfl ?_
      refine q_iconst (n := 105) dX8_evens_104 rfl (k := ?_)
      refine q_iload_n (n := 106) dX8_evens_105 rfl rfl ?_
      refine q_iastore (n := 107) dX8_evens_106 rfl mi1 ⟨by omega, by omega⟩ ?_
      rw [om_upn rfl, up_up, up_self]
      refine q_iload_n (n := 108) dX8_evens_107 rfl rfl ?_
      refine q_iret dX8_evens_108 rfl (fun _ => rfl) ?_
      rcases hab with h | h
      · omega
      · rw [if_neg (by omega)]
        exact ⟨by rw [h.2.1]; rfl, _, rfl⟩
    · exact absurd h40 (by omega)
  | succ n ih =>
    intro i b l c a s o7 o9 hi h0 hab
    have hi9 : 1 ≤ i ∧ i ≤ 9 ∨ 9 < i := by omega
    refine q_iload (n := 38) dX8_evens_36 rfl rfl ?_
    refine q_bipush (n := 40) dX8_evens_38 rfl (k := ?_)
    refine q_icmp_gt (n := 43) (t := 100) dX8_evens_40 rfl (by decide) (fun h40 => ?_) (fun h40 => ?_)
    · exact absurd h40 (by omega)
    · skip
      refine q_aload_n (n := 44) dX8_evens_43 rfl rfl ?_
      refine q_getR (n := 47) dX8_evens_44 rfl fX8_23 mi0 rfl ?_
      refine q_iconst (n := 48) dX8_evens_47 rfl (k := ?_)
      refine q_iload (n := 50) dX8_evens_48 rfl rfl ?_
      refine q_iastore (n := 51) dX8_evens_50 rfl mi1 ⟨by omega, by omega⟩ ?_
      rw [om_upn rfl, up_up]
      have hhb := hevM_bd σ v i hI ⟨by omega, by omega⟩ hh
      have hhc := hhb
      unfold q_bd at hhc
      refine q_aload_n (n := 52) dX8_evens_51 rfl rfl ?_
      refine q_iload_n (n := 53) dX8_evens_52 rfl rfl ?_
      refine q_v1 (n := 56) dX8_evens_53 rfl (zF_heatOf v i σ _ hI hv hh ⟨by omega, by omega⟩) vX8_heatOf lX8_307 rfl rfl mi0 rfl (fun v53 σ53 h53 => ?_)
      obtain ⟨rfl, s2, rfl⟩ := h53
      · skip
        refine q_lstore (n := 58) dX8_evens_56 rfl (Nat.le_of_ble_eq_true rfl) (q_s2_s (q_s2_s (q_s2_s (q_s2_s (q_s2_s (q_s2_s (q_s2_1 rfl))))))) ?_
        refine q_lload (n := 60) dX8_evens_58 rfl rfl ?_
        refine q_lconst (x := 0) (n := 61) dX8_evens_60 rfl (k := ?_)
        refine q_lcmp (n := 62) dX8_evens_61 rfl ?_
        refine q_if_ge (n := 65) (t := 71) dX8_evens_62 rfl (by decide) (fun h62 => ?_) (fun h62 => ?_)
        · have h62 := q_kget.mp h62
          have eab : ab ((hev (pM (σ 1) 2) (pM (σ 1) 3) (σ 1 1) (pM (σ 1) 4 v) (pM (σ 1) 5 v) (pM (σ 1) 6 v) (pM (σ 1) 7 v)) i) = (hev (pM (σ 1) 2) (pM (σ 1) 3) (σ 1 1) (pM (σ 1) 4 v) (pM (σ 1) 5 v) (pM (σ 1) 6 v) (pM (σ 1) 7 v)) i := if_pos h62
          refine q_lload (n := 73) dX8_evens_71 rfl rfl ?_
          refine q_lstore (n := 75) dX8_evens_73 rfl (Nat.le_of_ble_eq_true rfl) (q_s2_s (q_s2_s (q_s2_s (q_s2_s (q_s2_s (q_s2_s (q_s2_s (q_s2_s (q_s2_1 rfl))))))))) ?_
          refine q_iload_n (n := 76) dX8_evens_75 rfl rfl ?_
          refine q_if_eq (n := 79) (t := 87) dX8_evens_76 rfl (by decide) (fun h76 => ?_) (fun h76 => ?_)
          · skip
            refine q_iload (n := 89) dX8_evens_87 rfl rfl ?_
            refine q_istore_n (n := 90) dX8_evens_89 rfl (Nat.le_of_ble_eq_true rfl) (q_s1_s (q_s1_s (q_s1_1 rfl))) ?_
            refine q_lload (n := 92) dX8_evens_90 rfl rfl ?_
            refine q_lstore (n := 94) dX8_evens_92 rfl (Nat.le_of_ble_eq_true rfl) (q_s2_s (q_s2_s (q_s2_s (q_s2_1 rfl)))) ?_
            refine q_iinc (n := 97) dX8_evens_94 rfl (Nat.le_of_ble_eq_true rfl) rfl (q_nwid ⟨by omega, by omega⟩) (q_s1_s (q_s1_s (q_s1_s (q_s1_s (q_s1_s (q_s1_1 rfl)))))) ?_
            refine q_go (t := 36) dX8_evens_97 (by decide) ?_
            first
              | (have e1 : i = 1 := by omega
                 subst e1
                 have h := ih (1 + 1) 1 (ab ((hev (pM (σ 1) 2) (pM (σ 1) 3) (σ 1 1) (pM (σ 1) 4 v) (pM (σ 1) 5 v) (pM (σ 1) 6 v) (pM (σ 1) 7 v)) 1)) 1 (ab ((hev (pM (σ 1) 2) (pM (σ 1) 3) (σ 1 1) (pM (σ 1) 4 v) (pM (σ 1) 5 v) (pM (σ 1) 6 v) (pM (σ 1) 7 v)) 1), 1) s2 (some (.inr (.inl ((hev (pM (σ 1) 2) (pM (σ 1) 3) (σ 1 1) (pM (σ 1) 4 v) (pM (σ 1) 5 v) (pM (σ 1) 6 v) (pM (σ 1) 7 v)) 1)))) (some (.inr (.inl (ab ((hev (pM (σ 1) 2) (pM (σ 1) 3) (σ 1 1) (pM (σ 1) 4 v) (pM (σ 1) 5 v) (pM (σ 1) 6 v) (pM (σ 1) 7 v)) 1))))) (by omega) (by omega) (Or.inr ⟨by omega, rfl, by omega, rfl⟩)
                 obtain rfl : n = 8 := by omega
                 rw [if_neg (by decide)] at h
                 rw [if_pos rfl]
                 rw [eab] at h ⊢
                 exact h)
              | (have hs : ab ((hev (pM (σ 1) 2) (pM (σ 1) 3) (σ 1 1) (pM (σ 1) 4 v) (pM (σ 1) 5 v) (pM (σ 1) 6 v) (pM (σ 1) 7 v)) i) < a.1 := by omega
                 have hi2 : ¬ i = 1 := by omega
                 rw [if_neg hi2, evL, if_pos hs]
                 have h := ih (i + 1) i (ab ((hev (pM (σ 1) 2) (pM (σ 1) 3) (σ 1 1) (pM (σ 1) 4 v) (pM (σ 1) 5 v) (pM (σ 1) 6 v) (pM (σ 1) 7 v)) i)) i (ab ((hev (pM (σ 1) 2) (pM (σ 1) 3) (σ 1 1) (pM (σ 1) 4 v) (pM (σ 1) 5 v) (pM (σ 1) 6 v) (pM (σ 1) 7 v)) i), i) s2 (some (.inr (.inl ((hev (pM (σ 1) 2) (pM (σ 1) 3) (σ 1 1) (pM (σ 1) 4 v) (pM (σ 1) 5 v) (pM (σ 1) 6 v) (pM (σ 1) 7 v)) i)))) (some (.inr (.inl (ab ((hev (pM (σ 1) 2) (pM (σ 1) 3) (σ 1 1) (pM (σ 1) 4 v) (pM (σ 1) 5 v) (pM (σ 1) 6 v) (pM (σ 1) 7 v)) i))))) (by omega) (by omega) (Or.inr ⟨by omega, rfl, by omega, rfl⟩)
                 rw [if_neg (by omega)] at h
                 rw [eab] at h ⊢
                 exact h)
              | (have hs : ¬ ab ((hev (pM (σ 1) 2) (pM (σ 1) 3) (σ 1 1) (pM (σ 1) 4 v) (pM (σ 1) 5 v) (pM (σ 1) 6 v) (pM (σ 1) 7 v)) i) < a.1 := by omega
                 have hi2 : ¬ i = 1 := by omega
                 rw [if_neg hi2, evL, if_neg hs]
                 have h := ih (i + 1) b l i a s2 (some (.inr (.inl ((hev (pM (σ 1) 2) (pM (σ 1) 3) (σ 1 1) (pM (σ 1) 4 v) (pM (σ 1) 5 v) (pM (σ 1) 6 v) (pM (σ 1) 7 v)) i)))) (some (.inr (.inl (ab ((hev (pM (σ 1) 2) (pM (σ 1) 3) (σ 1 1) (pM (σ 1) 4 v) (pM (σ 1) 5 v) (pM (σ 1) 6 v) (pM (σ 1) 7 v)) i))))) (by omega) (by omega) (by omega)
                 rw [if_neg (by omega)] at h
                 rw [eab] at h
                 exact h)
          · skip
            refine q_lload (n := 81) dX8_evens_79 rfl rfl ?_
            refine q_lload (n := 83) dX8_evens_81 rfl rfl ?_
            refine q_lcmp (n := 84) dX8_evens_83 rfl ?_
            refine q_if_ge (n := 87) (t := 94) dX8_evens_84 rfl (by decide) (fun h84 => ?_) (fun h84 => ?_)
            · have h84 := q_kget.mp h84
              refine q_iinc (n := 97) dX8_evens_94 rfl (Nat.le_of_ble_eq_true rfl) rfl (q_nwid ⟨by omega, by omega⟩) (q_s1_s (q_s1_s (q_s1_s (q_s1_s (q_s1_s (q_s1_1 rfl)))))) ?_
              refine q_go (t := 36) dX8_evens_97 (by decide) ?_
              first
                | (have e1 : i = 1 := by omega
                   subst e1
                   have h := ih (1 + 1) 1 (ab ((hev (pM (σ 1) 2) (pM (σ 1) 3) (σ 1 1) (pM (σ 1) 4 v) (pM (σ 1) 5 v) (pM (σ 1) 6 v) (pM (σ 1) 7 v)) 1)) 1 (ab ((hev (pM (σ 1) 2) (pM (σ 1) 3) (σ 1 1) (pM (σ 1) 4 v) (pM (σ 1) 5 v) (pM (σ 1) 6 v) (pM (σ 1) 7 v)) 1), 1) s2 (some (.inr (.inl ((hev (pM (σ 1) 2) (pM (σ 1) 3) (σ 1 1) (pM (σ 1) 4 v) (pM (σ 1) 5 v) (pM (σ 1) 6 v) (pM (σ 1) 7 v)) 1)))) (some (.inr (.inl (ab ((hev (pM (σ 1) 2) (pM (σ 1) 3) (σ 1 1) (pM (σ 1) 4 v) (pM (σ 1) 5 v) (pM (σ 1) 6 v) (pM (σ 1) 7 v)) 1))))) (by omega) (by omega) (Or.inr ⟨by omega, rfl, by omega, rfl⟩)
                   obtain rfl : n = 8 := by omega
                   rw [if_neg (by decide)] at h
                   rw [if_pos rfl]
                   rw [eab] at h ⊢
                   exact h)
                | (have hs : ab ((hev (pM (σ 1) 2) (pM (σ 1) 3) (σ 1 1) (pM (σ 1) 4 v) (pM (σ 1) 5 v) (pM (σ 1) 6 v) (pM (σ 1) 7 v)) i) < a.1 := by omega
                   have hi2 : ¬ i = 1 := by omega
                   rw [if_neg hi2, evL, if_pos hs]
                   have h := ih (i + 1) i (ab ((hev (pM (σ 1) 2) (pM (σ 1) 3) (σ 1 1) (pM (σ 1) 4 v) (pM (σ 1) 5 v) (pM (σ 1) 6 v) (pM (σ 1) 7 v)) i)) i (ab ((hev (pM (σ 1) 2) (pM (σ 1) 3) (σ 1 1) (pM (σ 1) 4 v) (pM (σ 1) 5 v) (pM (σ 1) 6 v) (pM (σ 1) 7 v)) i), i) s2 (some (.inr (.inl ((hev (pM (σ 1) 2) (pM (σ 1) 3) (σ 1 1) (pM (σ 1) 4 v) (pM (σ 1) 5 v) (pM (σ 1) 6 v) (pM (σ 1) 7 v)) i)))) (some (.inr (.inl (ab ((hev (pM (σ 1) 2) (pM (σ 1) 3) (σ 1 1) (pM (σ 1) 4 v) (pM (σ 1) 5 v) (pM (σ 1) 6 v) (pM (σ 1) 7 v)) i))))) (by omega) (by omega) (Or.inr ⟨by omega, rfl, by omega, rfl⟩)
                   rw [if_neg (by omega)] at h
                   rw [eab] at h ⊢
                   exact h)
                | (have hs : ¬ ab ((hev (pM (σ 1) 2) (pM (σ 1) 3) (σ 1 1) (pM (σ 1) 4 v) (pM (σ 1) 5 v) (pM (σ 1) 6 v) (pM (σ 1) 7 v)) i) < a.1 := by omega
                   have hi2 : ¬ i = 1 := by omega
                   rw [if_neg hi2, evL, if_neg hs]
                   have h := ih (i + 1) b l i a s2 (some (.inr (.inl ((hev (pM (σ 1) 2) (pM (σ 1) 3) (σ 1 1) (pM (σ 1) 4 v) (pM (σ 1) 5 v) (pM (σ 1) 6 v) (pM (σ 1) 7 v)) i)))) (some (.inr (.inl (ab ((hev (pM (σ 1) 2) (pM (σ 1) 3) (σ 1 1) (pM (σ 1) 4 v) (pM (σ 1) 5 v) (pM (σ 1) 6 v) (pM (σ 1) 7 v)) i))))) (by omega) (by omega) (by omega)
                   rw [if_neg (by omega)] at h
                   rw [eab] at h
                   exact h)
            · have h84 := q_kgef.mp h84
              refine q_iload (n := 89) dX8_evens_87 rfl rfl ?_
              refine q_istore_n (n := 90) dX8_evens_89 rfl (Nat.le_of_ble_eq_true rfl) (q_s1_s (q_s1_s (q_s1_1 rfl))) ?_
              refine q_lload (n := 92) dX8_evens_90 rfl rfl ?_
              refine q_lstore (n := 94) dX8_evens_92 rfl (Nat.le_of_ble_eq_true rfl) (q_s2_s (q_s2_s (q_s2_s (q_s2_1 rfl)))) ?_
              refine q_iinc (n := 97) dX8_evens_94 rfl (Nat.le_of_ble_eq_true rfl) rfl (q_nwid ⟨by omega, by omega⟩) (q_s1_s (q_s1_s (q_s1_s (q_s1_s (q_s1_s (q_s1_1 rfl)))))) ?_
              refine q_go (t := 36) dX8_evens_97 (by decide) ?_
              first
                | (have e1 : i = 1 := by omega
                   subst e1
                   have h := ih (1 + 1) 1 (ab ((hev (pM (σ 1) 2) (pM (σ 1) 3) (σ 1 1) (pM (σ 1) 4 v) (pM (σ 1) 5 v) (pM (σ 1) 6 v) (pM (σ 1) 7 v)) 1)) 1 (ab ((hev (pM (σ 1) 2) (pM (σ 1) 3) (σ 1 1) (pM (σ 1) 4 v) (pM (σ 1) 5 v) (pM (σ 1) 6 v) (pM (σ 1) 7 v)) 1), 1) s2 (some (.inr (.inl ((hev (pM (σ 1) 2) (pM (σ 1) 3) (σ 1 1) (pM (σ 1) 4 v) (pM (σ 1) 5 v) (pM (σ 1) 6 v) (pM (σ 1) 7 v)) 1)))) (some (.inr (.inl (ab ((hev (pM (σ 1) 2) (pM (σ 1) 3) (σ 1 1) (pM (σ 1) 4 v) (pM (σ 1) 5 v) (pM (σ 1) 6 v) (pM (σ 1) 7 v)) 1))))) (by omega) (by omega) (Or.inr ⟨by omega, rfl, by omega, rfl⟩)
                   obtain rfl : n = 8 := by omega
                   rw [if_neg (by decide)] at h
                   rw [if_pos rfl]
                   rw [eab] at h ⊢
                   exact h)
                | (have hs : ab ((hev (pM (σ 1) 2) (pM (σ 1) 3) (σ 1 1) (pM (σ 1) 4 v) (pM (σ 1) 5 v) (pM (σ 1) 6 v) (pM (σ 1) 7 v)) i) < a.1 := by omega
                   have hi2 : ¬ i = 1 := by omega
                   rw [if_neg hi2, evL, if_pos hs]
                   have h := ih (i + 1) i (ab ((hev (pM (σ 1) 2) (pM (σ 1) 3) (σ 1 1) (pM (σ 1) 4 v) (pM (σ 1) 5 v) (pM (σ 1) 6 v) (pM (σ 1) 7 v)) i)) i (ab ((hev (pM (σ 1) 2) (pM (σ 1) 3) (σ 1 1) (pM (σ 1) 4 v) (pM (σ 1) 5 v) (pM (σ 1) 6 v) (pM (σ 1) 7 v)) i), i) s2 (some (.inr (.inl ((hev (pM (σ 1) 2) (pM (σ 1) 3) (σ 1 1) (pM (σ 1) 4 v) (pM (σ 1) 5 v) (pM (σ 1) 6 v) (pM (σ 1) 7 v)) i)))) (some (.inr (.inl (ab ((hev (pM (σ 1) 2) (pM (σ 1) 3) (σ 1 1) (pM (σ 1) 4 v) (pM (σ 1) 5 v) (pM (σ 1) 6 v) (pM (σ 1) 7 v)) i))))) (by omega) (by omega) (Or.inr ⟨by omega, rfl, by omega, rfl⟩)
                   rw [if_neg (by omega)] at h
                   rw [eab] at h ⊢
                   exact h)
                | (have hs : ¬ ab ((hev (pM (σ 1) 2) (pM (σ 1) 3) (σ 1 1) (pM (σ 1) 4 v) (pM (σ 1) 5 v) (pM (σ 1) 6 v) (pM (σ 1) 7 v)) i) < a.1 := by omega
                   have hi2 : ¬ i = 1 := by omega
                   rw [if_neg hi2, evL, if_neg hs]
                   have h := ih (i + 1) b l i a s2 (some (.inr (.inl ((hev (pM (σ 1) 2) (pM (σ 1) 3) (σ 1 1) (pM (σ 1) 4 v) (pM (σ 1) 5 v) (pM (σ 1) 6 v) (pM (σ 1) 7 v)) i)))) (some (.inr (.inl (ab ((hev (pM (σ 1) 2) (pM (σ 1) 3) (σ 1 1) (pM (σ 1) 4 v) (pM (σ 1) 5 v) (pM (σ 1) 6 v) (pM (σ 1) 7 v)) i))))) (by omega) (by omega) (by omega)
                   rw [if_neg (by omega)] at h
                   rw [eab] at h
                   exact h)
        · have h62 := q_kgef.mp h62
          have eab : ab ((hev (pM (σ 1) 2) (pM (σ 1) 3) (σ 1 1) (pM (σ 1) 4 v) (pM (σ 1) 5 v) (pM (σ 1) 6 v) (pM (σ 1) 7 v)) i) = -(hev (pM (σ 1) 2) (pM (σ 1) 3) (σ 1 1) (pM (σ 1) 4 v) (pM (σ 1) 5 v) (pM (σ 1) 6 v) (pM (σ 1) 7 v)) i := if_neg (by omega)
          refine q_lload (n := 67) dX8_evens_65 rfl rfl ?_
          refine q_lnegS (n := 68) dX8_evens_67 rfl (by unfold q_i64; omega) ?_
          refine q_go (t := 73) dX8_evens_68 (by decide) ?_
          refine q_lstore (n := 75) dX8_evens_73 rfl (Nat.le_of_ble_eq_true rfl) (q_s2_s (q_s2_s (q_s2_s (q_s2_s (q_s2_s (q_s2_s (q_s2_s (q_s2_s (q_s2_1 rfl))))))))) ?_
          refine q_iload_n (n := 76) dX8_evens_75 rfl rfl ?_
          refine q_if_eq (n := 79) (t := 87) dX8_evens_76 rfl (by decide) (fun h76 => ?_) (fun h76 => ?_)
          · skip
            refine q_iload (n := 89) dX8_evens_87 rfl rfl ?_
            refine q_istore_n (n := 90) dX8_evens_89 rfl (Nat.le_of_ble_eq_true rfl) (q_s1_s (q_s1_s (q_s1_1 rfl))) ?_
            refine q_lload (n := 92) dX8_evens_90 rfl rfl ?_
            refine q_lstore (n := 94) dX8_evens_92 rfl (Nat.le_of_ble_eq_true rfl) (q_s2_s (q_s2_s (q_s2_s (q_s2_1 rfl)))) ?_
            refine q_iinc (n := 97) dX8_evens_94 rfl (Nat.le_of_ble_eq_true rfl) rfl (q_nwid ⟨by omega, by omega⟩) (q_s1_s (q_s1_s (q_s1_s (q_s1_s (q_s1_s (q_s1_1 rfl)))))) ?_
            refine q_go (t := 36) dX8_evens_97 (by decide) ?_
            first
              | (have e1 : i = 1 := by omega
                 subst e1
                 have h := ih (1 + 1) 1 (ab ((hev (pM (σ 1) 2) (pM (σ 1) 3) (σ 1 1) (pM (σ 1) 4 v) (pM (σ 1) 5 v) (pM (σ 1) 6 v) (pM (σ 1) 7 v)) 1)) 1 (ab ((hev (pM (σ 1) 2) (pM (σ 1) 3) (σ 1 1) (pM (σ 1) 4 v) (pM (σ 1) 5 v) (pM (σ 1) 6 v) (pM (σ 1) 7 v)) 1), 1) s2 (some (.inr (.inl ((hev (pM (σ 1) 2) (pM (σ 1) 3) (σ 1 1) (pM (σ 1) 4 v) (pM (σ 1) 5 v) (pM (σ 1) 6 v) (pM (σ 1) 7 v)) 1)))) (some (.inr (.inl (ab ((hev (pM (σ 1) 2) (pM (σ 1) 3) (σ 1 1) (pM (σ 1) 4 v) (pM (σ 1) 5 v) (pM (σ 1) 6 v) (pM (σ 1) 7 v)) 1))))) (by omega) (by omega) (Or.inr ⟨by omega, rfl, by omega, rfl⟩)
                 obtain rfl : n = 8 := by omega
                 rw [if_neg (by decide)] at h
                 rw [if_pos rfl]
                 rw [eab] at h ⊢
                 exact h)
              | (have hs : ab ((hev (pM (σ 1) 2) (pM (σ 1) 3) (σ 1 1) (pM (σ 1) 4 v) (pM (σ 1) 5 v) (pM (σ 1) 6 v) (pM (σ 1) 7 v)) i) < a.1 := by omega
                 have hi2 : ¬ i = 1 := by omega
                 rw [if_neg hi2, evL, if_pos hs]
                 have h := ih (i + 1) i (ab ((hev (pM (σ 1) 2) (pM (σ 1) 3) (σ 1 1) (pM (σ 1) 4 v) (pM (σ 1) 5 v) (pM (σ 1) 6 v) (pM (σ 1) 7 v)) i)) i (ab ((hev (pM (σ 1) 2) (pM (σ 1) 3) (σ 1 1) (pM (σ 1) 4 v) (pM (σ 1) 5 v) (pM (σ 1) 6 v) (pM (σ 1) 7 v)) i), i) s2 (some (.inr (.inl ((hev (pM (σ 1) 2) (pM (σ 1) 3) (σ 1 1) (pM (σ 1) 4 v) (pM (σ 1) 5 v) (pM (σ 1) 6 v) (pM (σ 1) 7 v)) i)))) (some (.inr (.inl (ab ((hev (pM (σ 1) 2) (pM (σ 1) 3) (σ 1 1) (pM (σ 1) 4 v) (pM (σ 1) 5 v) (pM (σ 1) 6 v) (pM (σ 1) 7 v)) i))))) (by omega) (by omega) (Or.inr ⟨by omega, rfl, by omega, rfl⟩)
                 rw [if_neg (by omega)] at h
                 rw [eab] at h ⊢
                 exact h)
              | (have hs : ¬ ab ((hev (pM (σ 1) 2) (pM (σ 1) 3) (σ 1 1) (pM (σ 1) 4 v) (pM (σ 1) 5 v) (pM (σ 1) 6 v) (pM (σ 1) 7 v)) i) < a.1 := by omega
                 have hi2 : ¬ i = 1 := by omega
                 rw [if_neg hi2, evL, if_neg hs]
                 have h := ih (i + 1) b l i a s2 (some (.inr (.inl ((hev (pM (σ 1) 2) (pM (σ 1) 3) (σ 1 1) (pM (σ 1) 4 v) (pM (σ 1) 5 v) (pM (σ 1) 6 v) (pM (σ 1) 7 v)) i)))) (some (.inr (.inl (ab ((hev (pM (σ 1) 2) (pM (σ 1) 3) (σ 1 1) (pM (σ 1) 4 v) (pM (σ 1) 5 v) (pM (σ 1) 6 v) (pM (σ 1) 7 v)) i))))) (by omega) (by omega) (by omega)
                 rw [if_neg (by omega)] at h
                 rw [eab] at h
                 exact h)
          · skip
            refine q_lload (n := 81) dX8_evens_79 rfl rfl ?_
            refine q_lload (n := 83) dX8_evens_81 rfl rfl ?_
            refine q_lcmp (n := 84) dX8_evens_83 rfl ?_
            refine q_if_ge (n := 87) (t := 94) dX8_evens_84 rfl (by decide) (fun h84 => ?_) (fun h84 => ?_)
            · have h84 := q_kget.mp h84
              refine q_iinc (n := 97) dX8_evens_94 rfl (Nat.le_of_ble_eq_true rfl) rfl (q_nwid ⟨by omega, by omega⟩) (q_s1_s (q_s1_s (q_s1_s (q_s1_s (q_s1_s (q_s1_1 rfl)))))) ?_
              refine q_go (t := 36) dX8_evens_97 (by decide) ?_
              first
                | (have e1 : i = 1 := by omega
                   subst e1
                   have h := ih (1 + 1) 1 (ab ((hev (pM (σ 1) 2) (pM (σ 1) 3) (σ 1 1) (pM (σ 1) 4 v) (pM (σ 1) 5 v) (pM (σ 1) 6 v) (pM (σ 1) 7 v)) 1)) 1 (ab ((hev (pM (σ 1) 2) (pM (σ 1) 3) (σ 1 1) (pM (σ 1) 4 v) (pM (σ 1) 5 v) (pM (σ 1) 6 v) (pM (σ 1) 7 v)) 1), 1) s2 (some (.inr (.inl ((hev (pM (σ 1) 2) (pM (σ 1) 3) (σ 1 1) (pM (σ 1) 4 v) (pM (σ 1) 5 v) (pM (σ 1) 6 v) (pM (σ 1) 7 v)) 1)))) (some (.inr (.inl (ab ((hev (pM (σ 1) 2) (pM (σ 1) 3) (σ 1 1) (pM (σ 1) 4 v) (pM (σ 1) 5 v) (pM (σ 1) 6 v) (pM (σ 1) 7 v)) 1))))) (by omega) (by omega) (Or.inr ⟨by omega, rfl, by omega, rfl⟩)
                   obtain rfl : n = 8 := by omega
                   rw [if_neg (by decide)] at h
                   rw [if_pos rfl]
                   rw [eab] at h ⊢
                   exact h)
                | (have hs : ab ((hev (pM (σ 1) 2) (pM (σ 1) 3) (σ 1 1) (pM (σ 1) 4 v) (pM (σ 1) 5 v) (pM (σ 1) 6 v) (pM (σ 1) 7 v)) i) < a.1 := by omega
                   have hi2 : ¬ i = 1 := by omega
                   rw [if_neg hi2, evL, if_pos hs]
                   have h := ih (i + 1) i (ab ((hev (pM (σ 1) 2) (pM (σ 1) 3) (σ 1 1) (pM (σ 1) 4 v) (pM (σ 1) 5 v) (pM (σ 1) 6 v) (pM (σ 1) 7 v)) i)) i (ab ((hev (pM (σ 1) 2) (pM (σ 1) 3) (σ 1 1) (pM (σ 1) 4 v) (pM (σ 1) 5 v) (pM (σ 1) 6 v) (pM (σ 1) 7 v)) i), i) s2 (some (.inr (.inl ((hev (pM (σ 1) 2) (pM (σ 1) 3) (σ 1 1) (pM (σ 1) 4 v) (pM (σ 1) 5 v) (pM (σ 1) 6 v) (pM (σ 1) 7 v)) i)))) (some (.inr (.inl (ab ((hev (pM (σ 1) 2) (pM (σ 1) 3) (σ 1 1) (pM (σ 1) 4 v) (pM (σ 1) 5 v) (pM (σ 1) 6 v) (pM (σ 1) 7 v)) i))))) (by omega) (by omega) (Or.inr ⟨by omega, rfl, by omega, rfl⟩)
                   rw [if_neg (by omega)] at h
                   rw [eab] at h ⊢
                   exact h)
                | (have hs : ¬ ab ((hev (pM (σ 1) 2) (pM (σ 1) 3) (σ 1 1) (pM (σ 1) 4 v) (pM (σ 1) 5 v) (pM (σ 1) 6 v) (pM (σ 1) 7 v)) i) < a.1 := by omega
                   have hi2 : ¬ i = 1 := by omega
                   rw [if_neg hi2, evL, if_neg hs]
                   have h := ih (i + 1) b l i a s2 (some (.inr (.inl ((hev (pM (σ 1) 2) (pM (σ 1) 3) (σ 1 1) (pM (σ 1) 4 v) (pM (σ 1) 5 v) (pM (σ 1) 6 v) (pM (σ 1) 7 v)) i)))) (some (.inr (.inl (ab ((hev (pM (σ 1) 2) (pM (σ 1) 3) (σ 1 1) (pM (σ 1) 4 v) (pM (σ 1) 5 v) (pM (σ 1) 6 v) (pM (σ 1) 7 v)) i))))) (by omega) (by omega) (by omega)
                   rw [if_neg (by omega)] at h
                   rw [eab] at h
                   exact h)
            · have h84 := q_kgef.mp h84
              refine q_iload (n := 89) dX8_evens_87 rfl rfl ?_
              refine q_istore_n (n := 90) dX8_evens_89 rfl (Nat.le_of_ble_eq_true rfl) (q_s1_s (q_s1_s (q_s1_1 rfl))) ?_
              refine q_lload (n := 92) dX8_evens_90 rfl rfl ?_
              refine q_lstore (n := 94) dX8_evens_92 rfl (Nat.le_of_ble_eq_true rfl) (q_s2_s (q_s2_s (q_s2_s (q_s2_1 rfl)))) ?_
              refine q_iinc (n := 97) dX8_evens_94 rfl (Nat.le_of_ble_eq_true rfl) rfl (q_nwid ⟨by omega, by omega⟩) (q_s1_s (q_s1_s (q_s1_s (q_s1_s (q_s1_s (q_s1_1 rfl)))))) ?_
              refine q_go (t := 36) dX8_evens_97 (by decide) ?_
              first
                | (have e1 : i = 1 := by omega
                   subst e1
                   have h := ih (1 + 1) 1 (ab ((hev (pM (σ 1) 2) (pM (σ 1) 3) (σ 1 1) (pM (σ 1) 4 v) (pM (σ 1) 5 v) (pM (σ 1) 6 v) (pM (σ 1) 7 v)) 1)) 1 (ab ((hev (pM (σ 1) 2) (pM (σ 1) 3) (σ 1 1) (pM (σ 1) 4 v) (pM (σ 1) 5 v) (pM (σ 1) 6 v) (pM (σ 1) 7 v)) 1), 1) s2 (some (.inr (.inl ((hev (pM (σ 1) 2) (pM (σ 1) 3) (σ 1 1) (pM (σ 1) 4 v) (pM (σ 1) 5 v) (pM (σ 1) 6 v) (pM (σ 1) 7 v)) 1)))) (some (.inr (.inl (ab ((hev (pM (σ 1) 2) (pM (σ 1) 3) (σ 1 1) (pM (σ 1) 4 v) (pM (σ 1) 5 v) (pM (σ 1) 6 v) (pM (σ 1) 7 v)) 1))))) (by omega) (by omega) (Or.inr ⟨by omega, rfl, by omega, rfl⟩)
                   obtain rfl : n = 8 := by omega
                   rw [if_neg (by decide)] at h
                   rw [if_pos rfl]
                   rw [eab] at h ⊢
                   exact h)
                | (have hs : ab ((hev (pM (σ 1) 2) (pM (σ 1) 3) (σ 1 1) (pM (σ 1) 4 v) (pM (σ 1) 5 v) (pM (σ 1) 6 v) (pM (σ 1) 7 v)) i) < a.1 := by omega
                   have hi2 : ¬ i = 1 := by omega
                   rw [if_neg hi2, evL, if_pos hs]
                   have h := ih (i + 1) i (ab ((hev (pM (σ 1) 2) (pM (σ 1) 3) (σ 1 1) (pM (σ 1) 4 v) (pM (σ 1) 5 v) (pM (σ 1) 6 v) (pM (σ 1) 7 v)) i)) i (ab ((hev (pM (σ 1) 2) (pM (σ 1) 3) (σ 1 1) (pM (σ 1) 4 v) (pM (σ 1) 5 v) (pM (σ 1) 6 v) (pM (σ 1) 7 v)) i), i) s2 (some (.inr (.inl ((hev (pM (σ 1) 2) (pM (σ 1) 3) (σ 1 1) (pM (σ 1) 4 v) (pM (σ 1) 5 v) (pM (σ 1) 6 v) (pM (σ 1) 7 v)) i)))) (some (.inr (.inl (ab ((hev (pM (σ 1) 2) (pM (σ 1) 3) (σ 1 1) (pM (σ 1) 4 v) (pM (σ 1) 5 v) (pM (σ 1) 6 v) (pM (σ 1) 7 v)) i))))) (by omega) (by omega) (Or.inr ⟨by omega, rfl, by omega, rfl⟩)
                   rw [if_neg (by omega)] at h
                   rw [eab] at h ⊢
                   exact h)
                | (have hs : ¬ ab ((hev (pM (σ 1) 2) (pM (σ 1) 3) (σ 1 1) (pM (σ 1) 4 v) (pM (σ 1) 5 v) (pM (σ 1) 6 v) (pM (σ 1) 7 v)) i) < a.1 := by omega
                   have hi2 : ¬ i = 1 := by omega
                   rw [if_neg hi2, evL, if_neg hs]
                   have h := ih (i + 1) b l i a s2 (some (.inr (.inl ((hev (pM (σ 1) 2) (pM (σ 1) 3) (σ 1 1) (pM (σ 1) 4 v) (pM (σ 1) 5 v) (pM (σ 1) 6 v) (pM (σ 1) 7 v)) i)))) (some (.inr (.inl (ab ((hev (pM (σ 1) 2) (pM (σ 1) 3) (σ 1 1) (pM (σ 1) 4 v) (pM (σ 1) 5 v) (pM (σ 1) 6 v) (pM (σ 1) 7 v)) i))))) (by omega) (by omega) (by omega)
                   rw [if_neg (by omega)] at h
                   rw [eab] at h
                   exact h)
set_option maxRecDepth 100000 in
theorem zX8_evens (v : Int) (σ s : q_S) (hI : IM σ) : q_Ct mX8_evens shM [.inr (.inr 0), .inl v] (ovM σ s) (fun r σ' => r = some (.inl (fEvens (σ 1 1) (σ 1 2) (pM (σ 1) 2) (pM (σ 1) 3) (pM (σ 1) 4) (pM (σ 1) 5) (pM (σ 1) 6) (pM (σ 1) 7) v)) ∧ ∃ s', σ' = ovM σ s') := by
  refine q_ct 9 (by decide) rfl rfl ?_
  show q_WP mX8_evens shM 0 [some (.inr (.inr 0)), some (.inl v), none, none, none, none, none, none, none, none, none] [] (ovM σ s) _
  have hn := hI.nt
  have hvv := hI.nv
  refine q_aload_n (n := 1) dX8_evens_0 rfl rfl ?_
  refine q_iload_n (n := 2) dX8_evens_1 rfl rfl ?_
  refine q_v1D (n := 5) dX8_evens_2 rfl (zX8_isVertex _ σ _ (by omega)) vX8_isVertex lX8_192 rfl rfl mi0 rfl ?_
  refine q_if_ne (n := 8) (t := 10) dX8_evens_5 rfl (by decide) (fun h5 => ?_) (fun h5 => ?_)
  · have hv := q_b1.mp h5
    refine q_aload_n (n := 11) dX8_evens_10 rfl rfl ?_
    refine q_iload_n (n := 12) dX8_evens_11 rfl rfl ?_
    refine q_v1 (n := 15) dX8_evens_12 rfl (zX8_isHot v σ _ hI hv) vX8_isHot lX8_310 rfl rfl mi0 rfl (fun v12 σ12 h12 => ?_)
    obtain ⟨rfl, s12, rfl⟩ := h12
    · skip
      refine q_if_ne (n := 18) (t := 21) dX8_evens_15 rfl (by decide) (fun h15 => ?_) (fun h15 => ?_)
      · have hh := q_b1.mp h15
        refine q_aload_n (n := 22) dX8_evens_21 rfl rfl ?_
        refine q_getR (n := 25) dX8_evens_22 rfl fX8_23 mi0 rfl ?_
        refine q_iconst (n := 26) dX8_evens_25 rfl (k := ?_)
        refine q_ialoadF (σ 1) (n := 27) dX8_evens_26 rfl mi1 ⟨by omega, by omega⟩ rfl ?_
        refine q_istore_n (n := 28) dX8_evens_27 rfl (Nat.le_of_ble_eq_true rfl) (q_s1_s (q_s1_1 rfl)) ?_
        refine q_iconst (n := 29) dX8_evens_28 rfl (k := ?_)
        refine q_istore_n (n := 30) dX8_evens_29 rfl (Nat.le_of_ble_eq_true rfl) (q_s1_s (q_s1_s (q_s1_1 rfl))) ?_
        refine q_lconst (x := 0) (n := 31) dX8_evens_30 rfl (k := ?_)
        refine q_lstore (n := 33) dX8_evens_31 rfl (Nat.le_of_ble_eq_true rfl) (q_s2_s (q_s2_s (q_s2_s (q_s2_1 rfl)))) ?_
        refine q_iconst (n := 34) dX8_evens_33 rfl (k := ?_)
        refine q_istore (n := 36) dX8_evens_34 rfl (Nat.le_of_ble_eq_true rfl) (q_s1_s (q_s1_s (q_s1_s (q_s1_s (q_s1_s (q_s1_1 rfl)))))) ?_
        have e : fEvens (σ 1 1) (σ 1 2) (pM (σ 1) 2) (pM (σ 1) 3) (pM (σ 1) 4) (pM (σ 1) 5) (pM (σ 1) 6) (pM (σ 1) 7) v = (evL (hev (pM (σ 1) 2) (pM (σ 1) 3) (σ 1 1) (pM (σ 1) 4 v) (pM (σ 1) 5 v) (pM (σ 1) 6 v) (pM (σ 1) 7 v)) 8 2 (ab ((hev (pM (σ 1) 2) (pM (σ 1) 3) (σ 1 1) (pM (σ 1) 4 v) (pM (σ 1) 5 v) (pM (σ 1) 6 v) (pM (σ 1) 7 v)) 1), 1)).2 := by
          unfold fEvens
          rw [if_neg (fun z => z hv), if_neg (fun z => z hh)]
        rw [e]
        refine q_cut _ _ (ovM (q_up σ 1 0 (σ 1 0)) s12) rfl rfl (by rw [up_self]) ?_
        have h := lpX8_ev σ v hI hv hh 9 1 0 0 (σ 1 0) (0, 0) s12 none none (by decide) (by decide) (Or.inl ⟨rfl, rfl⟩)
        rw [if_pos rfl] at h
        exact h
      · have hh := q_b0.mp h15
        refine q_bipush (n := 20) dX8_evens_18 rfl (k := ?_)
        refine q_iret dX8_evens_20 rfl (fun _ => rfl) ?_
        refine ⟨congrArg some (congrArg Sum.inl (Eq.symm ?_)), _, rfl⟩
        unfold fEvens
        first
          | exact if_pos hv
          | (rw [if_neg (fun z => z hv), if_pos hh]; done)
  · have hv := q_b0.mp h5
    refine q_iconst (n := 9) dX8_evens_8 rfl (k := ?_)
    refine q_iret dX8_evens_9 rfl (fun _ => rfl) ?_
    refine ⟨congrArg some (congrArg Sum.inl (Eq.symm ?_)), _, rfl⟩
    unfold fEvens
    first
      | exact if_pos hv
      | (rw [if_neg (fun z => z hv), if_pos hh]; done)
