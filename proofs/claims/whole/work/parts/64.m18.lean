/-- the tape as the class's -/
def tx (σ : q_S) : q_S := fun c x => if c = 91 then (if x = 1 then σ 0 28 else 0) else if c = 92 then σ 14 x else 0
theorem tx_1 {σ : q_S} : tx σ 91 1 = σ 0 28 := rfl
theorem tx_T {σ : q_S} {k : Int} : tT (tx σ) k = if k < σ 0 28 then σ 14 k else 0 := rfl
/-- place, fault, what was read -/
def tm (s : q_S) (p w : Int) (rd : Int → Int) : q_S := q_row (q_up (q_up s 0 30 w) 0 29 p) 15 rd
section TM
variable {s : q_S} {p w v i : Int} {rd : Int → Int}
theorem tm_p : tm s p w rd 0 29 = p := by unfold tm; rw [q_row_o (by decide), q_up_s]
theorem tm_w : tm s p w rd 0 30 = w := by unfold tm; rw [q_row_o (by decide), q_up_n (by decide), q_up_s]
theorem tm_r : tm s p w rd 15 = rd := q_row_s
theorem tm_o {c x : Int} (h : c ≠ 15 ∧ ¬ (c = 0 ∧ x = 29) ∧ ¬ (c = 0 ∧ x = 30)) : tm s p w rd c x = s c x := by unfold tm; rw [q_row_o h.1, q_up_n h.2.1, q_up_n h.2.2]
theorem tm_sp : q_up (tm s p w rd) 0 29 v = tm s v w rd := by
  funext c x
  unfold tm q_row q_up
  by_cases h : c = 0
  · subst h
    by_cases h2 : x = 29 <;> simp [h2]
  · simp [h]
theorem tm_sw : q_up (tm s p w rd) 0 30 v = tm s p v rd := by
  funext c x
  unfold tm q_row q_up
  by_cases h : c = 0
  · subst h
    by_cases h2 : x = 29
    · subst h2
      simp
    · by_cases h3 : x = 30 <;> simp [h2, h3]
  · simp [h]
theorem tm_sr : q_up (tm s p w rd) 15 i v = tm s p w (ud rd i v) := q_row_up
theorem om_tp {σ : q_S} : ovM σ (tm s p w rd) 0 29 = p := (om_s rfl).trans (tm_p (s := s) (p := p) (w := w) (rd := rd))
theorem om_tw {σ : q_S} : ovM σ (tm s p w rd) 0 30 = w := (om_s rfl).trans (tm_w (s := s) (p := p) (w := w) (rd := rd))
theorem om_tr {σ : q_S} {x : Int} : ovM σ (tm s p w rd) 15 x = rd x := by rw [om_s rfl, tm_r]
theorem om_sp {σ : q_S} : q_up (ovM σ (tm s p w rd)) 0 29 v = ovM σ (tm s v w rd) := by rw [om_up rfl, tm_sp]
theorem om_sw {σ : q_S} : q_up (ovM σ (tm s p w rd)) 0 30 v = ovM σ (tm s p v rd) := by rw [om_up rfl, tm_sw]
theorem om_sr {σ : q_S} : q_up (ovM σ (tm s p w rd)) 15 i v = ovM σ (tm s p w (ud rd i v)) := by rw [om_up rfl, tm_sr]
theorem tm_id : s = tm s (s 0 29) (s 0 30) (s 15) := by
  unfold tm
  rw [up_self, up_self, q_row_0]
end TM
set_option maxRecDepth 100000 in
theorem zX8_byteAt (k : Int) (σ s : q_S) (hI : IM σ) (hk : 0 ≤ k) : q_Ct mX8_byteAt shM [.inr (.inr 0), .inl k] (ovM σ s) (fun r σ' => r = some (.inl ((tT (tx σ)) k)) ∧ σ' = ovM σ s) := by
  refine q_ct 0 (by decide) rfl rfl ?_
  show q_WP mX8_byteAt shM 0 [some (.inr (.inr 0)), some (.inl k)] [] (ovM σ s) _
  have hl := hI.2.2.2.2.1
  have eT := @tx_T σ k
  refine q_iload_n (n := 1) dX8_byteAt_0 rfl rfl ?_
  refine q_aload_n (n := 2) dX8_byteAt_1 rfl rfl ?_
  refine q_getIF (σ 0) (kI := 28) (n := 5) (by decide) dX8_byteAt_2 rfl fX8_201 mi0 rfl rfl rfl ?_
  refine q_icmp_ge (n := 8) (t := 17) dX8_byteAt_5 rfl (by decide) (fun h5 => ?_) (fun h5 => ?_)
  · skip
    refine q_iconst (n := 18) dX8_byteAt_17 rfl (k := ?_)
    refine q_iret dX8_byteAt_18 rfl (fun _ => rfl) ?_
    refine ⟨?_, rfl⟩
    rw [eT]
    first
      | (rw [if_pos (by omega)]; done)
      | (rw [if_neg (by omega)]; done)
  · skip
    refine q_aload_n (n := 9) dX8_byteAt_8 rfl rfl ?_
    refine q_getR (n := 12) dX8_byteAt_9 rfl fX8_63 mi0 rfl ?_
    refine q_iload_n (n := 13) dX8_byteAt_12 rfl rfl ?_
    refine q_ialoadF (σ 14) (n := 14) dX8_byteAt_13 rfl mi14 ⟨by omega, by omega⟩ rfl ?_
    refine q_go (t := 18) dX8_byteAt_14 (by decide) ?_
    refine q_iret dX8_byteAt_18 rfl (fun _ => rfl) ?_
    refine ⟨?_, rfl⟩
    rw [eT]
    first
      | (rw [if_pos (by omega)]; done)
      | (rw [if_neg (by omega)]; done)
set_option maxRecDepth 100000 in
theorem zX8_isFigure (σ s : q_S) (p w : Int) (rd : Int → Int) (hI : IM σ) (hp : 0 ≤ p) : q_Ct mX8_isFigure shM [.inr (.inr 0)] (ovM σ (tm s p w rd)) (fun r σ' => r = some (.inl (if fig (tT (tx σ)) p then 1 else 0)) ∧ σ' = (ovM σ (tm s p w rd))) := by
  refine q_ct 0 (by decide) rfl rfl ?_
  show q_WP mX8_isFigure shM 0 [some (.inr (.inr 0))] [] (ovM σ (tm s p w rd)) _
  refine q_aload_n (n := 1) dX8_isFigure_0 rfl rfl ?_
  refine q_aload_n (n := 2) dX8_isFigure_1 rfl rfl ?_
  refine q_getIE (p) (kI := 29) (n := 5) (by decide) dX8_isFigure_2 rfl fX8_321 mi0 rfl rfl om_tp ?_
  refine q_v1D (n := 8) dX8_isFigure_5 rfl (zX8_byteAt _ σ _ hI (by omega)) vX8_byteAt lX8_324 rfl rfl mi0 rfl ?_
  refine q_i2l (n := 9) dX8_isFigure_8 rfl ?_
  refine q_ldc2 (x := 48) (n := 12) dX8_isFigure_9 rfl kX8_327 (k := ?_)
  refine q_ldc2 (x := 57) (n := 15) dX8_isFigure_12 rfl kX8_329 (k := ?_)
  refine q_c3D (n := 18) dX8_isFigure_15 rfl (zX8_in _ _ _ _ _) vX8_in lX8_13 rfl rfl ?_
  refine q_iret dX8_isFigure_18 rfl (fun _ => by split <;> rfl) ?_
  exact ⟨rfl, rfl⟩
set_option maxRecDepth 100000 in
theorem zX8_takes1 (c : Int) (σ s : q_S) (p : Int) (rd : Int → Int) (hI : IM σ) (hp : 0 ≤ p ∧ p ≤ 1000) : q_Ct mX8_takes shM [.inr (.inr 0), .inl c] (ovM σ (tm s p 1 rd)) (fun r σ' => r = none ∧ σ' = (ovM σ (tm s p 1 rd))) := by
  refine q_ct 0 (by decide) rfl rfl ?_
  show q_WP mX8_takes shM 0 [some (.inr (.inr 0)), some (.inl c)] [] (ovM σ (tm s p 1 rd)) _
  refine q_aload_n (n := 1) dX8_takes_0 rfl rfl ?_
  refine q_getIE (1) (kI := 30) (n := 4) (by decide) dX8_takes_1 rfl fX8_331 mi0 rfl rfl om_tw ?_
  refine q_if_eq (n := 7) (t := 8) dX8_takes_4 rfl (by decide) (fun h4 => ?_) (fun h4 => ?_)
  · exact absurd h4 (by decide)
  · skip
    refine q_vret dX8_takes_7 rfl ?_
    exact ⟨rfl, rfl⟩
set_option maxRecDepth 100000 in
theorem zX8_takes0 (c : Int) (σ s : q_S) (p : Int) (rd : Int → Int) (hI : IM σ) (hp : 0 ≤ p ∧ p ≤ 1000) : q_Ct mX8_takes shM [.inr (.inr 0), .inl c] (ovM σ (tm s p 0 rd)) (fun r σ' => r = none ∧ (((tT (tx σ)) p = c ∧ σ' = (ovM σ (tm s (p + 1) 0 rd))) ∨ ((tT (tx σ)) p ≠ c ∧ σ' = (ovM σ (tm s p 1 rd))))) := by
  refine q_ct 0 (by decide) rfl rfl ?_
  show q_WP mX8_takes shM 0 [some (.inr (.inr 0)), some (.inl c)] [] (ovM σ (tm s p 0 rd)) _
  refine q_aload_n (n := 1) dX8_takes_0 rfl rfl ?_
  refine q_getIE (0) (kI := 30) (n := 4) (by decide) dX8_takes_1 rfl fX8_331 mi0 rfl rfl om_tw ?_
  refine q_if_eq (n := 7) (t := 8) dX8_takes_4 rfl (by decide) (fun h4 => ?_) (fun h4 => ?_)
  · skip
    refine q_aload_n (n := 9) dX8_takes_8 rfl rfl ?_
    refine q_aload_n (n := 10) dX8_takes_9 rfl rfl ?_
    refine q_aload_n (n := 11) dX8_takes_10 rfl rfl ?_
    refine q_getIE (p) (kI := 29) (n := 14) (by decide) dX8_takes_11 rfl fX8_321 mi0 rfl rfl om_tp ?_
    refine q_v1D (n := 17) dX8_takes_14 rfl (zX8_byteAt _ σ _ hI (by omega)) vX8_byteAt lX8_324 rfl rfl mi0 rfl ?_
    refine q_iload_n (n := 18) dX8_takes_17 rfl rfl ?_
    refine q_icmp_eq (n := 21) (t := 25) dX8_takes_18 rfl (by decide) (fun h18 => ?_) (fun h18 => ?_)
    · skip
      refine q_iconst (n := 26) dX8_takes_25 rfl (k := ?_)
      refine q_putZ (kI := 30) (n := 29) dX8_takes_26 rfl pX8_331 mi0 rfl rfl ⟨by decide, by decide⟩ ?_
      rw [om_sw]
      refine q_aload_n (n := 30) dX8_takes_29 rfl rfl ?_
      refine q_dup (n := 31) dX8_takes_30 rfl rfl ?_
      refine q_getIE (p) (kI := 29) (n := 34) (by decide) dX8_takes_31 rfl fX8_321 mi0 rfl rfl om_tp ?_
      refine q_aload_n (n := 35) dX8_takes_34 rfl rfl ?_
      refine q_getIE (0) (kI := 30) (n := 38) (by decide) dX8_takes_35 rfl fX8_331 mi0 rfl rfl om_tw ?_
      refine q_if_eq (n := 41) (t := 45) dX8_takes_38 rfl (by decide) (fun h38 => ?_) (fun h38 => ?_)
      · skip
        refine q_iconst (n := 46) dX8_takes_45 rfl (k := ?_)
        refine q_iaddS (n := 47) dX8_takes_46 rfl ⟨by omega, by omega⟩ ?_
        refine q_putI (kI := 29) (n := 50) dX8_takes_47 rfl pX8_321 mi0 rfl rfl ?_
        rw [om_sp]
        refine q_vret dX8_takes_50 rfl ?_
        first
          | exact ⟨rfl, Or.inl ⟨h18, rfl⟩⟩
          | exact ⟨rfl, Or.inr ⟨h18, by rw [Int.add_zero]⟩⟩
      · exact absurd h38 (by decide)
    · skip
      refine q_iconst (n := 22) dX8_takes_21 rfl (k := ?_)
      refine q_go (t := 26) dX8_takes_22 (by decide) ?_
      refine q_putZ (kI := 30) (n := 29) dX8_takes_26 rfl pX8_331 mi0 rfl rfl ⟨by decide, by decide⟩ ?_
      rw [om_sw]
      refine q_aload_n (n := 30) dX8_takes_29 rfl rfl ?_
      refine q_dup (n := 31) dX8_takes_30 rfl rfl ?_
      refine q_getIE (p) (kI := 29) (n := 34) (by decide) dX8_takes_31 rfl fX8_321 mi0 rfl rfl om_tp ?_
      refine q_aload_n (n := 35) dX8_takes_34 rfl rfl ?_
      refine q_getIE (1) (kI := 30) (n := 38) (by decide) dX8_takes_35 rfl fX8_331 mi0 rfl rfl om_tw ?_
      refine q_if_eq (n := 41) (t := 45) dX8_takes_38 rfl (by decide) (fun h38 => ?_) (fun h38 => ?_)
      · exact absurd h38 (by decide)
      · skip
        refine q_iconst (n := 42) dX8_takes_41 rfl (k := ?_)
        refine q_go (t := 46) dX8_takes_42 (by decide) ?_
        refine q_iaddS (n := 47) dX8_takes_46 rfl ⟨by omega, by omega⟩ ?_
        refine q_putI (kI := 29) (n := 50) dX8_takes_47 rfl pX8_321 mi0 rfl rfl ?_
        rw [om_sp]
        refine q_vret dX8_takes_50 rfl ?_
        first
          | exact ⟨rfl, Or.inl ⟨h18, rfl⟩⟩
          | exact ⟨rfl, Or.inr ⟨h18, by rw [Int.add_zero]⟩⟩
  · exact absurd h4 (by decide)
set_option maxRecDepth 100000 in
theorem zX8_figure1 (σ s : q_S) (p : Int) (rd : Int → Int) (hI : IM σ) (hp : 0 ≤ p ∧ p ≤ 2000) : q_Ct mX8_figure shM [.inr (.inr 0)] (ovM σ (tm s p 1 rd)) (fun r σ' => r = some (.inl 0) ∧ σ' = (ovM σ (tm s p 1 rd))) := by
  refine q_ct 0 (by decide) rfl rfl ?_
  show q_WP mX8_figure shM 0 [some (.inr (.inr 0))] [] (ovM σ (tm s p 1 rd)) _
  refine q_aload_n (n := 1) dX8_figure_0 rfl rfl ?_
  refine q_getIE (1) (kI := 30) (n := 4) (by decide) dX8_figure_1 rfl fX8_331 mi0 rfl rfl om_tw ?_
  refine q_if_eq (n := 7) (t := 9) dX8_figure_4 rfl (by decide) (fun h4 => ?_) (fun h4 => ?_)
  · exact absurd h4 (by decide)
  · skip
    refine q_iconst (n := 8) dX8_figure_7 rfl (k := ?_)
    refine q_iret dX8_figure_8 rfl (fun _ => rfl) ?_
    exact ⟨rfl, rfl⟩
set_option maxRecDepth 100000 in
theorem zX8_figure0 (σ s : q_S) (p : Int) (rd : Int → Int) (hI : IM σ) (hp : 0 ≤ p ∧ p ≤ 2000) : q_Ct mX8_figure shM [.inr (.inr 0)] (ovM σ (tm s p 0 rd)) (fun r σ' => ∃ z, r = some z ∧ ((fig (tT (tx σ)) p ∧ z = .inl ((tT (tx σ)) p - 48) ∧ σ' = (ovM σ (tm s (p + 1) 0 rd))) ∨ (¬ fig (tT (tx σ)) p ∧ z = .inl 0 ∧ σ' = (ovM σ (tm s p 1 rd))))) := by
  refine q_ct 0 (by decide) rfl rfl ?_
  show q_WP mX8_figure shM 0 [some (.inr (.inr 0))] [] (ovM σ (tm s p 0 rd)) _
  have hl := hI.2.2.2.2.1
  have eT := @tx_T σ p
  refine q_aload_n (n := 1) dX8_figure_0 rfl rfl ?_
  refine q_getIE (0) (kI := 30) (n := 4) (by decide) dX8_figure_1 rfl fX8_331 mi0 rfl rfl om_tw ?_
  refine q_if_eq (n := 7) (t := 9) dX8_figure_4 rfl (by decide) (fun h4 => ?_) (fun h4 => ?_)
  · skip
    refine q_aload_n (n := 10) dX8_figure_9 rfl rfl ?_
    refine q_aload_n (n := 11) dX8_figure_10 rfl rfl ?_
    refine q_v0D (n := 14) dX8_figure_11 rfl (zX8_isFigure σ _ _ _ _ hI (by omega)) vX8_isFigure lX8_335 rfl rfl mi0 rfl ?_
    refine q_if_ne (n := 17) (t := 21) dX8_figure_14 rfl (by decide) (fun h14 => ?_) (fun h14 => ?_)
    · have h14 := q_b1.mp h14
      have hz : p < σ 0 28 := by
        by_cases z : p < σ 0 28
        · exact z
        · rw [if_neg z] at eT
          obtain ⟨z1, z2⟩ := h14
          omega
      rw [if_pos hz] at eT
      refine q_iconst (n := 22) dX8_figure_21 rfl (k := ?_)
      refine q_putZ (kI := 30) (n := 25) dX8_figure_22 rfl pX8_331 mi0 rfl rfl ⟨by decide, by decide⟩ ?_
      rw [om_sw]
      refine q_aload_n (n := 26) dX8_figure_25 rfl rfl ?_
      refine q_getIE (0) (kI := 30) (n := 29) (by decide) dX8_figure_26 rfl fX8_331 mi0 rfl rfl om_tw ?_
      refine q_if_eq (n := 32) (t := 34) dX8_figure_29 rfl (by decide) (fun h29 => ?_) (fun h29 => ?_)
      · skip
        refine q_aload_n (n := 35) dX8_figure_34 rfl rfl ?_
        refine q_dup (n := 36) dX8_figure_35 rfl rfl ?_
        refine q_getIE (p) (kI := 29) (n := 39) (by decide) dX8_figure_36 rfl fX8_321 mi0 rfl rfl om_tp ?_
        refine q_iconst (n := 40) dX8_figure_39 rfl (k := ?_)
        refine q_iaddS (n := 41) dX8_figure_40 rfl ⟨by omega, by omega⟩ ?_
        refine q_putI (kI := 29) (n := 44) dX8_figure_41 rfl pX8_321 mi0 rfl rfl ?_
        rw [om_sp]
        refine q_aload_n (n := 45) dX8_figure_44 rfl rfl ?_
        refine q_getR (n := 48) dX8_figure_45 rfl fX8_63 mi0 rfl ?_
        refine q_aload_n (n := 49) dX8_figure_48 rfl rfl ?_
        refine q_getIE (p + 1) (kI := 29) (n := 52) (by decide) dX8_figure_49 rfl fX8_321 mi0 rfl rfl om_tp ?_
        refine q_iconst (n := 53) dX8_figure_52 rfl (k := ?_)
        refine q_isubS (n := 54) dX8_figure_53 rfl ⟨by omega, by omega⟩ ?_
        refine q_ialoadE (tT (tx σ) p) (n := 55) dX8_figure_54 rfl mi14 ⟨by omega, by omega⟩ (by rw [om_n rfl, Int.add_sub_cancel, eT]) ?_
        refine q_bipush (n := 57) dX8_figure_55 rfl (k := ?_)
        refine q_isubS (n := 58) dX8_figure_57 rfl ⟨by omega, by omega⟩ ?_
        refine q_iret dX8_figure_58 rfl (fun _ => rfl) ?_
        exact ⟨_, rfl, Or.inl ⟨h14, rfl, rfl⟩⟩
      · exact absurd h29 (by decide)
    · have h14 := q_b0.mp h14
      refine q_iconst (n := 18) dX8_figure_17 rfl (k := ?_)
      refine q_go (t := 22) dX8_figure_18 (by decide) ?_
      refine q_putZ (kI := 30) (n := 25) dX8_figure_22 rfl pX8_331 mi0 rfl rfl ⟨by decide, by decide⟩ ?_
      rw [om_sw]
      refine q_aload_n (n := 26) dX8_figure_25 rfl rfl ?_
      refine q_getIE (1) (kI := 30) (n := 29) (by decide) dX8_figure_26 rfl fX8_331 mi0 rfl rfl om_tw ?_
      refine q_if_eq (n := 32) (t := 34) dX8_figure_29 rfl (by decide) (fun h29 => ?_) (fun h29 => ?_)
      · exact absurd h29 (by decide)
      · skip
        refine q_iconst (n := 33) dX8_figure_32 rfl (k := ?_)
        refine q_iret dX8_figure_33 rfl (fun _ => rfl) ?_
        exact ⟨_, rfl, Or.inr ⟨h14, rfl, rfl⟩⟩
  · exact absurd h4 (by decide)
set_option maxRecDepth 100000 in
theorem zX8_number1 (σ s : q_S) (p : Int) (rd : Int → Int) (hI : IM σ) (hp : 0 ≤ p ∧ p ≤ 1000) : q_Ct mX8_number shM [.inr (.inr 0)] (ovM σ (tm s p 1 rd)) (fun r σ' => r = some (.inl 0) ∧ σ' = (ovM σ (tm s p 1 rd))) := by
  refine q_ct 2 (by decide) rfl rfl ?_
  show q_WP mX8_number shM 0 [some (.inr (.inr 0)), none, none] [] (ovM σ (tm s p 1 rd)) _
  refine q_aload_n (n := 1) dX8_number_0 rfl rfl ?_
  refine q_getIE (1) (kI := 30) (n := 4) (by decide) dX8_number_1 rfl fX8_331 mi0 rfl rfl om_tw ?_
  refine q_if_ne (n := 7) (t := 24) dX8_number_4 rfl (by decide) (fun h4 => ?_) (fun h4 => ?_)
  · skip
    refine q_iconst (n := 25) dX8_number_24 rfl (k := ?_)
    refine q_istore_n (n := 26) dX8_number_25 rfl (Nat.le_of_ble_eq_true rfl) (q_s1_1 rfl) ?_
    refine q_aload_n (n := 27) dX8_number_26 rfl rfl ?_
    refine q_dup (n := 28) dX8_number_27 rfl rfl ?_
    refine q_getIE (p) (kI := 29) (n := 31) (by decide) dX8_number_28 rfl fX8_321 mi0 rfl rfl om_tp ?_
    refine q_iload_n (n := 32) dX8_number_31 rfl rfl ?_
    refine q_if_eq (n := 35) (t := 39) dX8_number_32 rfl (by decide) (fun h32 => ?_) (fun h32 => ?_)
    · skip
      refine q_iconst (n := 40) dX8_number_39 rfl (k := ?_)
      refine q_iaddS (n := 41) dX8_number_40 rfl ⟨by omega, by omega⟩ ?_
      refine q_putI (kI := 29) (n := 44) dX8_number_41 rfl pX8_321 mi0 rfl rfl ?_
      rw [om_sp, Int.add_zero]
      refine q_aload_n (n := 45) dX8_number_44 rfl rfl ?_
      refine q_v0D (n := 48) dX8_number_45 rfl (zX8_figure1 σ s _ _ hI ⟨by omega, by omega⟩) vX8_figure lX8_338 rfl rfl mi0 rfl ?_
      refine q_istore_n (n := 49) dX8_number_48 rfl (Nat.le_of_ble_eq_true rfl) (q_s1_s (q_s1_1 rfl)) ?_
      refine q_aload_n (n := 50) dX8_number_49 rfl rfl ?_
      refine q_getIE (1) (kI := 30) (n := 53) (by decide) dX8_number_50 rfl fX8_331 mi0 rfl rfl om_tw ?_
      refine q_if_ne (n := 56) (t := 73) dX8_number_53 rfl (by decide) (fun h53 => ?_) (fun h53 => ?_)
      · skip
        refine q_iload_n (n := 74) dX8_number_73 rfl rfl ?_
        refine q_if_eq (n := 77) (t := 82) dX8_number_74 rfl (by decide) (fun h74 => ?_) (fun h74 => ?_)
        · skip
          refine q_iload_n (n := 83) dX8_number_82 rfl rfl ?_
          refine q_iret dX8_number_83 rfl (fun _ => rfl) ?_
          exact ⟨rfl, rfl⟩
        · exact absurd h74 (by decide)
      · exact absurd h53 (by decide)
    · exact absurd h32 (by decide)
  · exact absurd h4 (by decide)
set_option maxRecDepth 100000 in
theorem zX8_number0 (σ s : q_S) (p : Int) (rd : Int → Int) (hI : IM σ) (hp : 0 ≤ p ∧ p ≤ 1000) : q_Ct mX8_number shM [.inr (.inr 0)] (ovM σ (tm s p 0 rd)) (fun r σ' => ∃ z, r = some z ∧ ((∃ x q, pNum (tT (tx σ)) p = .inr (x, q) ∧ z = .inl x ∧ σ' = (ovM σ (tm s q 0 rd))) ∨ (∃ q, pNum (tT (tx σ)) p = .inl q ∧ z = .inl 0 ∧ σ' = (ovM σ (tm s q 1 rd))))) := by
  refine q_ct 2 (by decide) rfl rfl ?_
  show q_WP mX8_number shM 0 [some (.inr (.inr 0)), none, none] [] (ovM σ (tm s p 0 rd)) _
  refine q_aload_n (n := 1) dX8_number_0 rfl rfl ?_
  refine q_getIE (0) (kI := 30) (n := 4) (by decide) dX8_number_1 rfl fX8_331 mi0 rfl rfl om_tw ?_
  refine q_if_ne (n := 7) (t := 24) dX8_number_4 rfl (by decide) (fun h4 => ?_) (fun h4 => ?_)
  · exact absurd h4 (by decide)
  · skip
    refine q_aload_n (n := 8) dX8_number_7 rfl rfl ?_
    refine q_aload_n (n := 9) dX8_number_8 rfl rfl ?_
    refine q_getIE (p) (kI := 29) (n := 12) (by decide) dX8_number_9 rfl fX8_321 mi0 rfl rfl om_tp ?_
    refine q_v1D (n := 15) dX8_number_12 rfl (zX8_byteAt _ σ _ hI (by omega)) vX8_byteAt lX8_324 rfl rfl mi0 rfl ?_
    refine q_bipush (n := 17) dX8_number_15 rfl (k := ?_)
    refine q_icmp_ne (n := 20) (t := 24) dX8_number_17 rfl (by decide) (fun h17 => ?_) (fun h17 => ?_)
    · skip
      refine q_iconst (n := 25) dX8_number_24 rfl (k := ?_)
      refine q_istore_n (n := 26) dX8_number_25 rfl (Nat.le_of_ble_eq_true rfl) (q_s1_1 rfl) ?_
      refine q_aload_n (n := 27) dX8_number_26 rfl rfl ?_
      refine q_dup (n := 28) dX8_number_27 rfl rfl ?_
      refine q_getIE (p) (kI := 29) (n := 31) (by decide) dX8_number_28 rfl fX8_321 mi0 rfl rfl om_tp ?_
      refine q_iload_n (n := 32) dX8_number_31 rfl rfl ?_
      refine q_if_eq (n := 35) (t := 39) dX8_number_32 rfl (by decide) (fun h32 => ?_) (fun h32 => ?_)
      · skip
        refine q_iconst (n := 40) dX8_number_39 rfl (k := ?_)
        refine q_iaddS (n := 41) dX8_number_40 rfl ⟨by omega, by omega⟩ ?_
        refine q_putI (kI := 29) (n := 44) dX8_number_41 rfl pX8_321 mi0 rfl rfl ?_
        rw [om_sp]
        try rw [Int.add_zero]
        refine q_aload_n (n := 45) dX8_number_44 rfl rfl ?_
        refine q_v0 (n := 48) dX8_number_45 rfl (zX8_figure0 σ s _ _ hI ⟨by omega, by omega⟩) vX8_figure lX8_338 rfl rfl mi0 rfl (fun v45 σ45 h45 => ?_)
        rcases h45 with ⟨f45, rfl, rfl⟩ | ⟨f45, rfl, rfl⟩
        · skip
          refine q_istore_n (n := 49) dX8_number_48 rfl (Nat.le_of_ble_eq_true rfl) (q_s1_s (q_s1_1 rfl)) ?_
          refine q_aload_n (n := 50) dX8_number_49 rfl rfl ?_
          refine q_getIE (0) (kI := 30) (n := 53) (by decide) dX8_number_50 rfl fX8_331 mi0 rfl rfl om_tw ?_
          refine q_if_ne (n := 56) (t := 73) dX8_number_53 rfl (by decide) (fun h53 => ?_) (fun h53 => ?_)
          · exact absurd h53 (by decide)
          · skip
            refine q_aload_n (n := 57) dX8_number_56 rfl rfl ?_
            refine q_v0D (n := 60) dX8_number_57 rfl (zX8_isFigure σ _ _ _ _ hI (by omega)) vX8_isFigure lX8_335 rfl rfl mi0 rfl ?_
            refine q_if_eq (n := 63) (t := 73) dX8_number_60 rfl (by decide) (fun h60 => ?_) (fun h60 => ?_)
            · have h60 := q_b0.mp h60
              refine q_iload_n (n := 74) dX8_number_73 rfl rfl ?_
              refine q_if_eq (n := 77) (t := 82) dX8_number_74 rfl (by decide) (fun h74 => ?_) (fun h74 => ?_)
              · skip
                refine q_iload_n (n := 83) dX8_number_82 rfl rfl ?_
                refine q_iret dX8_number_83 rfl (fun _ => rfl) ?_
                first
                  | exact ⟨_, rfl, Or.inr ⟨_, by unfold pNum; rw [if_pos h17, if_neg f45], rfl, rfl⟩⟩
                  | exact ⟨_, rfl, Or.inr ⟨_, by unfold pNum; rw [if_neg h17, if_neg f45], rfl, rfl⟩⟩
                  | exact absurd h60 f68
                  | exact ⟨_, rfl, Or.inl ⟨_, _, by unfold pNum; rw [if_pos h17, if_pos f45, if_pos h60], congrArg Sum.inl (by omega), rfl⟩⟩
                  | exact ⟨_, rfl, Or.inl ⟨_, _, by unfold pNum; rw [if_pos h17, if_pos f45, if_neg h60], congrArg Sum.inl (by omega), rfl⟩⟩
                  | exact ⟨_, rfl, Or.inl ⟨_, _, by unfold pNum; rw [if_neg h17, if_pos f45, if_pos h60], congrArg Sum.inl (by omega), rfl⟩⟩
                  | exact ⟨_, rfl, Or.inl ⟨_, _, by unfold pNum; rw [if_neg h17, if_pos f45, if_neg h60], congrArg Sum.inl (by omega), rfl⟩⟩
              · exact absurd h74 (by decide)
            · have h60 := q_b1.mp h60
              refine q_bipush (n := 65) dX8_number_63 rfl (k := ?_)
              refine q_iload_n (n := 66) dX8_number_65 rfl rfl ?_
              refine q_imulS (n := 67) dX8_number_66 rfl ⟨by omega, by omega⟩ ?_
              refine q_aload_n (n := 68) dX8_number_67 rfl rfl ?_
              refine q_v0 (n := 71) dX8_number_68 rfl (zX8_figure0 σ s _ _ hI ⟨by omega, by omega⟩) vX8_figure lX8_338 rfl rfl mi0 rfl (fun v68 σ68 h68 => ?_)
              rcases h68 with ⟨f68, rfl, rfl⟩ | ⟨f68, rfl, rfl⟩
              · skip
                refine q_iaddS (n := 72) dX8_number_71 rfl ⟨by omega, by omega⟩ ?_
                refine q_istore_n (n := 73) dX8_number_72 rfl (Nat.le_of_ble_eq_true rfl) (q_s1_s (q_s1_1 rfl)) ?_
                refine q_iload_n (n := 74) dX8_number_73 rfl rfl ?_
                refine q_if_eq (n := 77) (t := 82) dX8_number_74 rfl (by decide) (fun h74 => ?_) (fun h74 => ?_)
                · skip
                  refine q_iload_n (n := 83) dX8_number_82 rfl rfl ?_
                  refine q_iret dX8_number_83 rfl (fun _ => rfl) ?_
                  first
                    | exact ⟨_, rfl, Or.inr ⟨_, by unfold pNum; rw [if_pos h17, if_neg f45], rfl, rfl⟩⟩
                    | exact ⟨_, rfl, Or.inr ⟨_, by unfold pNum; rw [if_neg h17, if_neg f45], rfl, rfl⟩⟩
                    | exact absurd h60 f68
                    | exact ⟨_, rfl, Or.inl ⟨_, _, by unfold pNum; rw [if_pos h17, if_pos f45, if_pos h60], congrArg Sum.inl (by omega), rfl⟩⟩
                    | exact ⟨_, rfl, Or.inl ⟨_, _, by unfold pNum; rw [if_pos h17, if_pos f45, if_neg h60], congrArg Sum.inl (by omega), rfl⟩⟩
                    | exact ⟨_, rfl, Or.inl ⟨_, _, by unfold pNum; rw [if_neg h17, if_pos f45, if_pos h60], congrArg Sum.inl (by omega), rfl⟩⟩
                    | exact ⟨_, rfl, Or.inl ⟨_, _, by unfold pNum; rw [if_neg h17, if_pos f45, if_neg h60], congrArg Sum.inl (by omega), rfl⟩⟩
                · exact absurd h74 (by decide)
              · skip
                refine q_iaddS (n := 72) dX8_number_71 rfl ⟨by omega, by omega⟩ ?_
                refine q_istore_n (n := 73) dX8_number_72 rfl (Nat.le_of_ble_eq_true rfl) (q_s1_s (q_s1_1 rfl)) ?_
                refine q_iload_n (n := 74) dX8_number_73 rfl rfl ?_
                refine q_if_eq (n := 77) (t := 82) dX8_number_74 rfl (by decide) (fun h74 => ?_) (fun h74 => ?_)
                · skip
                  refine q_iload_n (n := 83) dX8_number_82 rfl rfl ?_
                  refine q_iret dX8_number_83 rfl (fun _ => rfl) ?_
                  first
                    | exact ⟨_, rfl, Or.inr ⟨_, by unfold pNum; rw [if_pos h17, if_neg f45], rfl, rfl⟩⟩
                    | exact ⟨_, rfl, Or.inr ⟨_, by unfold pNum; rw [if_neg h17, if_neg f45], rfl, rfl⟩⟩
                    | exact absurd h60 f68
                    | exact ⟨_, rfl, Or.inl ⟨_, _, by unfold pNum; rw [if_pos h17, if_pos f45, if_pos h60], congrArg Sum.inl (by omega), rfl⟩⟩
                    | exact ⟨_, rfl, Or.inl ⟨_, _, by unfold pNum; rw [if_pos h17, if_pos f45, if_neg h60], congrArg Sum.inl (by omega), rfl⟩⟩
                    | exact ⟨_, rfl, Or.inl ⟨_, _, by unfold pNum; rw [if_neg h17, if_pos f45, if_pos h60], congrArg Sum.inl (by omega), rfl⟩⟩
                    | exact ⟨_, rfl, Or.inl ⟨_, _, by unfold pNum; rw [if_neg h17, if_pos f45, if_neg h60], congrArg Sum.inl (by omega), rfl⟩⟩
                · exact absurd h74 (by decide)
        · skip
          refine q_istore_n (n := 49) dX8_number_48 rfl (Nat.le_of_ble_eq_true rfl) (q_s1_s (q_s1_1 rfl)) ?_
          refine q_aload_n (n := 50) dX8_number_49 rfl rfl ?_
          refine q_getIE (1) (kI := 30) (n := 53) (by decide) dX8_number_50 rfl fX8_331 mi0 rfl rfl om_tw ?_
          refine q_if_ne (n := 56) (t := 73) dX8_number_53 rfl (by decide) (fun h53 => ?_) (fun h53 => ?_)
          · skip
            refine q_iload_n (n := 74) dX8_number_73 rfl rfl ?_
            refine q_if_eq (n := 77) (t := 82) dX8_number_74 rfl (by decide) (fun h74 => ?_) (fun h74 => ?_)
            · skip
              refine q_iload_n (n := 83) dX8_number_82 rfl rfl ?_
              refine q_iret dX8_number_83 rfl (fun _ => rfl) ?_
              first
                | exact ⟨_, rfl, Or.inr ⟨_, by unfold pNum; rw [if_pos h17, if_neg f45], rfl, rfl⟩⟩
                | exact ⟨_, rfl, Or.inr ⟨_, by unfold pNum; rw [if_neg h17, if_neg f45], rfl, rfl⟩⟩
                | exact absurd h60 f68
                | exact ⟨_, rfl, Or.inl ⟨_, _, by unfold pNum; rw [if_pos h17, if_pos f45, if_pos h60], congrArg Sum.inl (by omega), rfl⟩⟩
                | exact ⟨_, rfl, Or.inl ⟨_, _, by unfold pNum; rw [if_pos h17, if_pos f45, if_neg h60], congrArg Sum.inl (by omega), rfl⟩⟩
                | exact ⟨_, rfl, Or.inl ⟨_, _, by unfold pNum; rw [if_neg h17, if_pos f45, if_pos h60], congrArg Sum.inl (by omega), rfl⟩⟩
                | exact ⟨_, rfl, Or.inl ⟨_, _, by unfold pNum; rw [if_neg h17, if_pos f45, if_neg h60], congrArg Sum.inl (by omega), rfl⟩⟩
            · exact absurd h74 (by decide)
          · exact absurd h53 (by decide)
      · exact absurd h32 (by decide)
    · skip
      refine q_iconst (n := 21) dX8_number_20 rfl (k := ?_)
      refine q_go (t := 25) dX8_number_21 (by decide) ?_
      refine q_istore_n (n := 26) dX8_number_25 rfl (Nat.le_of_ble_eq_true rfl) (q_s1_1 rfl) ?_
      refine q_aload_n (n := 27) dX8_number_26 rfl rfl ?_
      refine q_dup (n := 28) dX8_number_27 rfl rfl ?_
      refine q_getIE (p) (kI := 29) (n := 31) (by decide) dX8_number_28 rfl fX8_321 mi0 rfl rfl om_tp ?_
      refine q_iload_n (n := 32) dX8_number_31 rfl rfl ?_
      refine q_if_eq (n := 35) (t := 39) dX8_number_32 rfl (by decide) (fun h32 => ?_) (fun h32 => ?_)
      · exact absurd h32 (by decide)
      · skip
        refine q_iconst (n := 36) dX8_number_35 rfl (k := ?_)
        refine q_go (t := 40) dX8_number_36 (by decide) ?_
        refine q_iaddS (n := 41) dX8_number_40 rfl ⟨by omega, by omega⟩ ?_
        refine q_putI (kI := 29) (n := 44) dX8_number_41 rfl pX8_321 mi0 rfl rfl ?_
        rw [om_sp]
        try rw [Int.add_zero]
        refine q_aload_n (n := 45) dX8_number_44 rfl rfl ?_
        refine q_v0 (n := 48) dX8_number_45 rfl (zX8_figure0 σ s _ _ hI ⟨by omega, by omega⟩) vX8_figure lX8_338 rfl rfl mi0 rfl (fun v45 σ45 h45 => ?_)
        rcases h45 with ⟨f45, rfl, rfl⟩ | ⟨f45, rfl, rfl⟩
        · skip
          refine q_istore_n (n := 49) dX8_number_48 rfl (Nat.le_of_ble_eq_true rfl) (q_s1_s (q_s1_1 rfl)) ?_
          refine q_aload_n (n := 50) dX8_number_49 rfl rfl ?_
          refine q_getIE (0) (kI := 30) (n := 53) (by decide) dX8_number_50 rfl fX8_331 mi0 rfl rfl om_tw ?_
          refine q_if_ne (n := 56) (t := 73) dX8_number_53 rfl (by decide) (fun h53 => ?_) (fun h53 => ?_)
          · exact absurd h53 (by decide)
          · skip
            refine q_aload_n (n := 57) dX8_number_56 rfl rfl ?_
            refine q_v0D (n := 60) dX8_number_57 rfl (zX8_isFigure σ _ _ _ _ hI (by omega)) vX8_isFigure lX8_335 rfl rfl mi0 rfl ?_
            refine q_if_eq (n := 63) (t := 73) dX8_number_60 rfl (by decide) (fun h60 => ?_) (fun h60 => ?_)
            · have h60 := q_b0.mp h60
              refine q_iload_n (n := 74) dX8_number_73 rfl rfl ?_
              refine q_if_eq (n := 77) (t := 82) dX8_number_74 rfl (by decide) (fun h74 => ?_) (fun h74 => ?_)
              · exact absurd h74 (by decide)
              · skip
                refine q_iload_n (n := 78) dX8_number_77 rfl rfl ?_
                refine q_inegS (n := 79) dX8_number_78 rfl ⟨by omega, by omega⟩ ?_
                refine q_go (t := 83) dX8_number_79 (by decide) ?_
                refine q_iret dX8_number_83 rfl (fun _ => rfl) ?_
                first
                  | exact ⟨_, rfl, Or.inr ⟨_, by unfold pNum; rw [if_pos h17, if_neg f45], rfl, rfl⟩⟩
                  | exact ⟨_, rfl, Or.inr ⟨_, by unfold pNum; rw [if_neg h17, if_neg f45], rfl, rfl⟩⟩
                  | exact absurd h60 f68
                  | exact ⟨_, rfl, Or.inl ⟨_, _, by unfold pNum; rw [if_pos h17, if_pos f45, if_pos h60], congrArg Sum.inl (by omega), rfl⟩⟩
                  | exact ⟨_, rfl, Or.inl ⟨_, _, by unfold pNum; rw [if_pos h17, if_pos f45, if_neg h60], congrArg Sum.inl (by omega), rfl⟩⟩
                  | exact ⟨_, rfl, Or.inl ⟨_, _, by unfold pNum; rw [if_neg h17, if_pos f45, if_pos h60], congrArg Sum.inl (by omega), rfl⟩⟩
                  | exact ⟨_, rfl, Or.inl ⟨_, _, by unfold pNum; rw [if_neg h17, if_pos f45, if_neg h60], congrArg Sum.inl (by omega), rfl⟩⟩
            · have h60 := q_b1.mp h60
              refine q_bipush (n := 65) dX8_number_63 rfl (k := ?_)
              refine q_iload_n (n := 66) dX8_number_65 rfl rfl ?_
              refine q_imulS (n := 67) dX8_number_66 rfl ⟨by omega, by omega⟩ ?_
              refine q_aload_n (n := 68) dX8_number_67 rfl rfl ?_
              refine q_v0 (n := 71) dX8_number_68 rfl (zX8_figure0 σ s _ _ hI ⟨by omega, by omega⟩) vX8_figure lX8_338 rfl rfl mi0 rfl (fun v68 σ68 h68 => ?_)
              rcases h68 with ⟨f68, rfl, rfl⟩ | ⟨f68, rfl, rfl⟩
              · skip
                refine q_iaddS (n := 72) dX8_number_71 rfl ⟨by omega, by omega⟩ ?_
                refine q_istore_n (n := 73) dX8_number_72 rfl (Nat.le_of_ble_eq_true rfl) (q_s1_s (q_s1_1 rfl)) ?_
                refine q_iload_n (n := 74) dX8_number_73 rfl rfl ?_
                refine q_if_eq (n := 77) (t := 82) dX8_number_74 rfl (by decide) (fun h74 => ?_) (fun h74 => ?_)
                · exact absurd h74 (by decide)
                · skip
                  refine q_iload_n (n := 78) dX8_number_77 rfl rfl ?_
                  refine q_inegS (n := 79) dX8_number_78 rfl ⟨by omega, by omega⟩ ?_
                  refine q_go (t := 83) dX8_number_79 (by decide) ?_
                  refine q_iret dX8_number_83 rfl (fun _ => rfl) ?_
                  first
                    | exact ⟨_, rfl, Or.inr ⟨_, by unfold pNum; rw [if_pos h17, if_neg f45], rfl, rfl⟩⟩
                    | exact ⟨_, rfl, Or.inr ⟨_, by unfold pNum; rw [if_neg h17, if_neg f45], rfl, rfl⟩⟩
                    | exact absurd h60 f68
                    | exact ⟨_, rfl, Or.inl ⟨_, _, by unfold pNum; rw [if_pos h17, if_pos f45, if_pos h60], congrArg Sum.inl (by omega), rfl⟩⟩
                    | exact ⟨_, rfl, Or.inl ⟨_, _, by unfold pNum; rw [if_pos h17, if_pos f45, if_neg h60], congrArg Sum.inl (by omega), rfl⟩⟩
                    | exact ⟨_, rfl, Or.inl ⟨_, _, by unfold pNum; rw [if_neg h17, if_pos f45, if_pos h60], congrArg Sum.inl (by omega), rfl⟩⟩
                    | exact ⟨_, rfl, Or.inl ⟨_, _, by unfold pNum; rw [if_neg h17, if_pos f45, if_neg h60], congrArg Sum.inl (by omega), rfl⟩⟩
              · skip
                refine q_iaddS (n := 72) dX8_number_71 rfl ⟨by omega, by omega⟩ ?_
                refine q_istore_n (n := 73) dX8_number_72 rfl (Nat.le_of_ble_eq_true rfl) (q_s1_s (q_s1_1 rfl)) ?_
                refine q_iload_n (n := 74) dX8_number_73 rfl rfl ?_
                refine q_if_eq (n := 77) (t := 82) dX8_number_74 rfl (by decide) (fun h74 => ?_) (fun h74 => ?_)
                · exact absurd h74 (by decide)
                · skip
                  refine q_iload_n (n := 78) dX8_number_77 rfl rfl ?_
                  refine q_inegS (n := 79) dX8_number_78 rfl ⟨by omega, by omega⟩ ?_
                  refine q_go (t := 83) dX8_number_79 (by decide) ?_
                  refine q_iret dX8_number_83 rfl (fun _ => rfl) ?_
                  first
                    | exact ⟨_, rfl, Or.inr ⟨_, by unfold pNum; rw [if_pos h17, if_neg f45], rfl, rfl⟩⟩
                    | exact ⟨_, rfl, Or.inr ⟨_, by unfold pNum; rw [if_neg h17, if_neg f45], rfl, rfl⟩⟩
                    | exact absurd h60 f68
                    | exact ⟨_, rfl, Or.inl ⟨_, _, by unfold pNum; rw [if_pos h17, if_pos f45, if_pos h60], congrArg Sum.inl (by omega), rfl⟩⟩
                    | exact ⟨_, rfl, Or.inl ⟨_, _, by unfold pNum; rw [if_pos h17, if_pos f45, if_neg h60], congrArg Sum.inl (by omega), rfl⟩⟩
                    | exact ⟨_, rfl, Or.inl ⟨_, _, by unfold pNum; rw [if_neg h17, if_pos f45, if_pos h60], congrArg Sum.inl (by omega), rfl⟩⟩
                    | exact ⟨_, rfl, Or.inl ⟨_, _, by unfold pNum; rw [if_neg h17, if_pos f45, if_neg h60], congrArg Sum.inl (by omega), rfl⟩⟩
        · skip
          refine q_istore_n (n := 49) dX8_number_48 rfl (Nat.le_of_ble_eq_true rfl) (q_s1_s (q_s1_1 rfl)) ?_
          refine q_aload_n (n := 50) dX8_number_49 rfl rfl ?_
          refine q_getIE (1) (kI := 30) (n := 53) (by decide) dX8_number_50 rfl fX8_331 mi0 rfl rfl om_tw ?_
          refine q_if_ne (n := 56) (t := 73) dX8_number_53 rfl (by decide) (fun h53 => ?_) (fun h53 => ?_)
          · skip
            refine q_iload_n (n := 74) dX8_number_73 rfl rfl ?_
            refine q_if_eq (n := 77) (t := 82) dX8_number_74 rfl (by decide) (fun h74 => ?_) (fun h74 => ?_)
            · exact absurd h74 (by decide)
            · skip
              refine q_iload_n (n := 78) dX8_number_77 rfl rfl ?_
              refine q_inegS (n := 79) dX8_number_78 rfl ⟨by omega, by omega⟩ ?_
              refine q_go (t := 83) dX8_number_79 (by decide) ?_
              refine q_iret dX8_number_83 rfl (fun _ => rfl) ?_
              first
                | exact ⟨_, rfl, Or.inr ⟨_, by unfold pNum; rw [if_pos h17, if_neg f45], rfl, rfl⟩⟩
                | exact ⟨_, rfl, Or.inr ⟨_, by unfold pNum; rw [if_neg h17, if_neg f45], rfl, rfl⟩⟩
                | exact absurd h60 f68
                | exact ⟨_, rfl, Or.inl ⟨_, _, by unfold pNum; rw [if_pos h17, if_pos f45, if_pos h60], congrArg Sum.inl (by omega), rfl⟩⟩
                | exact ⟨_, rfl, Or.inl ⟨_, _, by unfold pNum; rw [if_pos h17, if_pos f45, if_neg h60], congrArg Sum.inl (by omega), rfl⟩⟩
                | exact ⟨_, rfl, Or.inl ⟨_, _, by unfold pNum; rw [if_neg h17, if_pos f45, if_pos h60], congrArg Sum.inl (by omega), rfl⟩⟩
                | exact ⟨_, rfl, Or.inl ⟨_, _, by unfold pNum; rw [if_neg h17, if_pos f45, if_neg h60], congrArg Sum.inl (by omega), rfl⟩⟩
          · exact absurd h53 (by decide)
