theorem IX.tie {σ : q_S} (h : IX σ) {v : Int} (hv : 0 ≤ v ∧ v < σ 1 2) : q_bd (σ 4 v) 20 ∧ q_bd (σ 5 v) 20 ∧ tieok (σ 1 1) (σ 6 v) (σ 7 v) := h.1.2.2.2.2.2 v hv.1 hv.2
theorem IX.fd {σ : q_S} (h : IX σ) : q_bd (σ 1 0) 9 := by
  have := h.1.1
  unfold q_bd
  omega
theorem IX.mem {σ : q_S} (h : IX σ) {v j : Int} (hv : 0 ≤ v ∧ v < σ 1 2) (hj : 0 ≤ j ∧ j < mC (σ 6 v) (σ 7 v) (σ 1 1)) : (0 ≤ mF (σ 6 v) (σ 7 v) (σ 1 1) j ∧ mF (σ 6 v) (σ 7 v) (σ 1 1) j < σ 1 1) := (mem_F h.1.2.1 (h.tie hv).2.2).1 j hj.1 hj.2
theorem zC_members (σ s : q_S) (v : Int) (hI : IX σ) (hv : 0 ≤ v ∧ v < σ 1 2) : q_Ct mX3_membersOf shX [.inr (.inr 1), .inl v, .inr (.inr 83)] (ov σ s) (fun r σ' => ∃ x, r = some x ∧ (x = .inl (mC (σ 6 v) (σ 7 v) (σ 1 1)) ∧ ∃ s', σ' = ov σ s' ∧ (∀ j, 0 ≤ j → j < mC (σ 6 v) (σ 7 v) (σ 1 1) → s' 83 j = mF (σ 6 v) (σ 7 v) (σ 1 1) j) ∧ ∀ c, c ≠ 83 → s' c = s c)) := by
  have hn := hI.1.2.1
  have hv4 := hI.1.2.2.1
  have ht := (hI.tie hv).2.2
  refine (zX3_membersOf v (ov σ s) (by omega) hn).imp ?_
  rintro r σ' ⟨h1, h2⟩
  have hg := mem_g hn ht (s 83)
  have e : (mem0 (ov σ s 6 v) (ov σ s 7 v) (ov σ s 1 1) (ov σ s 83)) = mem0 (σ 6 v) (σ 7 v) (σ 1 1) (s 83) := rfl
  rw [e] at h1 h2
  refine ⟨_, h1, by rw [hg.1], _, by rw [h2]; exact ov_row (fun _ => rfl), fun j h3 h4 => ?_, fun c hc => ?_⟩
  · rw [q_row_s]
    exact hg.2 j h3 h4
  · exact q_row_o hc
theorem sc_u {u : Int} (h : u = 81 ∨ u = 82) (x : Int) : scX u x = true := by
  rcases h with rfl | rfl <;> rfl
theorem pu_u {u : Int} (h : u = 81 ∨ u = 82) : q_is shX u (.inl (4, [.inl 1, .inl 1, .inl 1])) := by
  rcases h with rfl | rfl
  · exact xi81
  · exact xi82
theorem bd_i64 {x C : Int} (h : q_bd x C) (hC : C ≤ 9223372036854775807) : q_i64 x := by unfold q_bd at h; unfold q_i64; omega
theorem KX_le {i : Int} : KX i ≤ 4831838208000000000 := by
  unfold KX
  repeat (first | split | omega)
theorem KW_le {i : Int} : KW i ≤ 1677721600000000 := by
  unfold KW
  repeat (first | split | omega)
set_option maxHeartbeats 1000000 in
theorem zC_join (σ s : q_S) (f : Int → Int) (u t F x y sd a b w i : Int) (hu : u = 81 ∨ u = 82) (ht8 : 0 ≤ t ∧ t < 8) (hl : laid s t f) (hg : lG f (6 * t)) (hB : lB f (6 * t) ≠ 0) (hs : s u 0 = a ∧ s u 1 = b ∧ s u 2 = w) (hj : jok i (a, b, w)) (hi : 0 ≤ i ∧ i ≤ 3) (hF : q_bd F 9) (hx : q_bd x 20) (hy : q_bd y 20) (hsd : q_bd sd 1) :
    q_Ct mX4_join shX [.inr (.inr u), .inr (.inr (96 + t)), .inl F, .inl x, .inl y, .inl sd] (ov σ s) (fun r σ' => r = none ∧ (∃ s', σ' = ov σ s' ∧ (s' u 0 = (jn (a, b, w) (jX f F y t sd) (jY f F x t sd) (un f t)).1 ∧ s' u 1 = (jn (a, b, w) (jX f F y t sd) (jY f F x t sd) (un f t)).2.1 ∧ s' u 2 = (jn (a, b, w) (jX f F y t sd) (jY f F x t sd) (un f t)).2.2) ∧ ∀ c, c ≠ u → s' c = s c)) := by
  have e : ∀ k, ov σ s (96 + t) k = s (96 + t) k := fun k => ov_s (sc_cv ht8 k)
  have eu : ∀ k, ov σ s u k = s u k := fun k => ov_s (sc_u hu k)
  obtain ⟨hu0, hu1⟩ := un_bd hg hB
  obtain ⟨h1, ⟨h3, h4⟩, h5, h6⟩ := hj
  have a1 := jn_step hi h1 h3 h5 (jX_bd hg hF hy hsd) (u := un f t) ⟨by omega, hu1⟩
  have a2 := jn_step hi h1 h4 h6 (jY_bd hg hF hx hsd) (u := un f t) ⟨by omega, hu1⟩
  have a3 : 1 ≤ w * un f t ∧ w * un f t ≤ KW (i + 1) := a1.2.2
  have K := KX_le (i := i + 1)
  have KK := KW_le (i := i + 1)
  have hne : (96 : Int) + t ≠ u := by omega
  have h := zX4_join u (96 + t) F x y sd (ov σ s) (pu_u hu) (curN t ht8) hF hx hy hsd (by rw [e, hl.1]; exact lB_bd hg) (by rw [e, hl.2.1]; exact lA_bd hg) (by rw [e, hl.2.2.1]; exact lU_bd hg) hne
    (by rw [eu, e, hs.1, hl.1]; exact bd_i64 a1.1.1 (by omega)) (by rw [eu, e, e, hs.2.2, hl.1, hl.2.2.1]; exact bd_i64 a1.1.2.1 (by omega)) (by rw [eu, e, e, eu, hs.1, hs.2.2, hl.1, hl.2.2.1]; exact bd_i64 a1.1.2.2 (by omega))
    (by rw [eu, e, hs.2.1, hl.1]; exact bd_i64 a2.1.1 (by omega)) (by rw [eu, e, e, hs.2.2, hl.1, hl.2.1]; exact bd_i64 a2.1.2.1 (by omega)) (by rw [eu, e, e, eu, hs.2.1, hs.2.2, hl.1, hl.2.1]; exact bd_i64 a2.1.2.2 (by omega))
    (by rw [eu, e, hs.2.2, hl.1]; exact bd_i64 (C := KW (i + 1)) (show q_bd (w * un f t) _ from ⟨by omega, a3.2⟩) (by omega))
  refine h.imp ?_
  rintro r σ' ⟨hr, rfl⟩
  refine ⟨hr, _, by rw [ov_up (sc_u hu _), ov_up (sc_u hu _), ov_up (sc_u hu _)], ⟨?_, ?_, ?_⟩, fun c hc => ?_⟩
  · rw [q_up_n (by omega), q_up_n (by omega), q_up_s]
    simp only [e, eu, hs.1, hs.2.2, hl.1, hl.2.2.1]
    rfl
  · rw [q_up_n (by omega), q_up_s]
    simp only [e, eu, hs.2.1, hs.2.2, hl.1, hl.2.1]
    rfl
  · rw [q_up_s]
    simp only [e, eu, hs.2.2, hl.1]
    rfl
  · rw [q_up_o hc, q_up_o hc, q_up_o hc]
theorem zC_clear (σ s : q_S) (u : Int) (hu : u = 81 ∨ u = 82) : q_Ct mX4_clear shX [.inr (.inr u)] (ov σ s) (fun r σ' => r = none ∧ (∃ s', σ' = ov σ s' ∧ (s' u 0 = 0 ∧ s' u 1 = 0 ∧ s' u 2 = 1) ∧ ∀ c, c ≠ u → s' c = s c)) := by
  refine (zX4_clear u (ov σ s) (pu_u hu)).imp ?_
  rintro r σ' ⟨hr, rfl⟩
  refine ⟨hr, _, by rw [ov_up (sc_u hu _), ov_up (sc_u hu _), ov_up (sc_u hu _)], ⟨?_, ?_, ?_⟩, fun c hc => ?_⟩
  · rw [q_up_n (by omega), q_up_n (by omega), q_up_s]
  · rw [q_up_n (by omega), q_up_s]
  · rw [q_up_s]
  · rw [q_up_o hc, q_up_o hc, q_up_o hc]
theorem zC_isNone (σ s : q_S) (a b : Int) (h0 : s 81 0 = a) (h1 : s 81 1 = b) : q_Ct mX4_isNone shX [.inr (.inr 81)] (ov σ s) (fun r σ' => r = some (.inl (if a = 0 ∧ b = 0 then 1 else 0)) ∧ σ' = ov σ s) := by
  subst h0
  subst h1
  exact zX4_isNone 81 (ov σ s) xi81
theorem zC_strength (σ s : q_S) (u a b w : Int) (hu : u = 81 ∨ u = 82) (hs : s u 0 = a ∧ s u 1 = b ∧ s u 2 = w) (hw : 1 ≤ w) (h0 : q_bd (a.tdiv w) 18432000) (h1 : q_bd (b.tdiv w) 18432000) : q_Ct mX4_strength shX [.inr (.inr u)] (ov σ s) (fun r σ' => r = some (.inr (.inl (stren a b w))) ∧ σ' = ov σ s) := by
  obtain ⟨rfl, rfl, rfl⟩ := hs
  have eu : ∀ k, ov σ s u k = s u k := fun k => ov_s (sc_u hu k)
  have h := zX4_strength u (ov σ s) (pu_u hu) (by rw [eu]; exact hw) (by rw [eu, eu]; exact bd_le h0 (by decide)) (by rw [eu, eu]; exact bd_le h1 (by decide))
  rw [eu, eu, eu] at h
  exact h
theorem zC_partAlong (σ s : q_S) (u a b w ax k : Int) (hu : u = 81 ∨ u = 82) (hs : s u 0 = a ∧ s u 1 = b ∧ s u 2 = w) (hw : 1 ≤ w ∧ w < 9223372036854775808) (ha : q_bd a 9223372036854775807) (hb : q_bd b 9223372036854775807) : q_Ct mX4_partAlong shX [.inr (.inr u), .inl ax, .inl k] (ov σ s) (fun r σ' => r = some (.inr (.inl (lowG (if ax = 0 then a else b) w k))) ∧ σ' = ov σ s) := by
  obtain ⟨rfl, rfl, rfl⟩ := hs
  have eu : ∀ k, ov σ s u k = s u k := fun k => ov_s (sc_u hu k)
  unfold q_bd at ha hb
  by_cases hx : ax = 0
  · have h := zX4_partAlong0 u ax k (ov σ s) (pu_u hu) hx (by rw [eu]; omega)
    rw [eu, eu, lowE_G ⟨by omega, by omega⟩ hw] at h
    rw [if_pos hx]
    exact h
  · have h := zX4_partAlong1 u ax k (ov σ s) (pu_u hu) hx (by rw [eu]; omega)
    rw [eu, eu, lowE_G ⟨by omega, by omega⟩ hw] at h
    rw [if_neg hx]
    exact h
def hasPb (nt : Int) (f : Int → Int) (t x y : Int) : Bool := (decide (((0 ≤ t ∧ t < nt) ∧ ((-20 ≤ x ∧ x ≤ 20) ∧ -20 ≤ y ∧ y ≤ 20)) ∧ lB f (6 * t) ≠ 0)) && onb f t x y
theorem hasPb_t {nt : Int} {f : Int → Int} {t x y : Int} : hasPb nt f t x y = true ↔ (((0 ≤ t ∧ t < nt) ∧ ((-20 ≤ x ∧ x ≤ 20) ∧ -20 ≤ y ∧ y ≤ 20)) ∧ lB f (6 * t) ≠ 0) ∧ onb f t x y = true := by
  unfold hasPb
  rw [Bool.and_eq_true, decide_eq_true_eq]
def rt (v : Int) : Int := rtl 31 0 v
def mss (k : Int) : Int := q_num.getD (5 * k + 4).toNat 0
def engy (f : Int → Int) (F x y t k : Int) : Int := rt (mss k * mss k + stren (pX f F y t) (pY f F x t) (un f t))
def fPush (F nt : Int) (f : Int → Int) (t x y ax k : Int) : Int := if hasPb nt f t x y = true ∧ (ax = 0 ∨ ax = 1) ∧ (k = 0 ∨ k = 1) then lowG (if ax = 0 then pX f F y t else pY f F x t) (un f t) k else -9223372036854775808
def fEnergy (F nt : Int) (f : Int → Int) (t x y k : Int) : Int := if hasPb nt f t x y = true ∧ (0 ≤ k ∧ k < 12) then engy f F x y t k else -9223372036854775808
theorem mss_bd {k : Int} (h : 0 ≤ k ∧ k < 12) : q_bd (mss k) 120 := num_rng h (by decide)
/-- what a single push leaves -/
def psh (s : q_S) (f : Int → Int) (F x y t : Int) : Prop := s 82 0 = pX f F y t ∧ s 82 1 = pY f F x t ∧ s 82 2 = un f t
theorem pXY_div {f : Int → Int} {F x y t : Int} (hg : lG f (6 * t)) (hB : lB f (6 * t) ≠ 0) (hF : q_bd F 9) (hx : q_bd x 20) (hy : q_bd y 20) : (q_bd (pX f F y t) 4608000 ∧ q_bd (pY f F x t) 4608000) ∧ q_bd ((pX f F y t).tdiv (un f t)) 18432000 ∧ q_bd ((pY f F x t).tdiv (un f t)) 18432000 := by
  have hu := un_bd hg hB
  have h1 := jX_bd (sd := 1) hg hF hy (by unfold q_bd; omega)
  have h2 := jY_bd (sd := 1) hg hF hx (by unfold q_bd; omega)
  rw [jX_1] at h1
  rw [jY_1] at h2
  refine ⟨⟨h1, h2⟩, tdiv_bd (by omega) (by decide) (bd_le h1 (by omega)), tdiv_bd (by omega) (by decide) (bd_le h2 (by omega))⟩
set_option maxRecDepth 100000 in
theorem zX7_hasPush (t x y : Int) (σ s : q_S) (hI : IX σ) : q_Ct mX7_hasPush shX [.inr (.inr 0), .inl t, .inl x, .inl y] (ov σ s) (fun r σ' => ∃ z, r = some z ∧ (z = .inl (if hasPb (σ 1 1) (σ 2) t x y = true then 1 else 0) ∧ ∃ s', σ' = ov σ s')) := by
  refine q_ct 0 (by decide) rfl rfl ?_
  show q_WP mX7_hasPush shX 0 [some (.inr (.inr 0)), some (.inl t), some (.inl x), some (.inl y)] [] (ov σ s) _
  have hI0 := hI
  have hn := hI.1.2.1
  refine q_aload_n (n := 1) dX7_hasPush_0 rfl rfl ?_
  refine q_getR (n := 4) dX7_hasPush_1 rfl fX7_12 xi0 rfl ?_
  refine q_iload_n (n := 5) dX7_hasPush_4 rfl rfl ?_
  refine q_v1D (n := 8) dX7_hasPush_5 rfl (zO_hasTrack _ _ _) vX3_hasTrack lX7_112 rfl rfl xi1 rfl ?_
  refine q_if_eq (n := 11) (t := 48) dX7_hasPush_8 rfl (by decide) (fun h8 => ?_) (fun h8 => ?_)
  · have h8 := q_b0.mp h8
    refine q_iconst (n := 49) dX7_hasPush_48 rfl (k := ?_)
    refine q_iret dX7_hasPush_49 rfl (fun _ => rfl) ?_
    refine ⟨_, rfl, congrArg Sum.inl (Eq.symm ?_), _, rfl⟩
    first
      | exact if_pos (hasPb_t.mpr ⟨⟨⟨h8, h16⟩, h41⟩, h29⟩)
      | exact if_neg (fun z => by have z := hasPb_t.mp z; first | exact h8 z.1.1.1 | exact h16 z.1.1.2 | exact h29 z.2 | exact z.1.2 h41)
  · have h8 := q_b1.mp h8
    have ht8 : 0 ≤ t ∧ t < 8 := by omega
    have hg := hI.pt h8
    refine q_iload_n (n := 12) dX7_hasPush_11 rfl rfl ?_
    refine q_iload_n (n := 13) dX7_hasPush_12 rfl rfl ?_
    refine q_c2D (n := 16) dX7_hasPush_13 rfl (zX7_isPoint _ _ _) vX7_isPoint lX7_202 rfl rfl ?_
    refine q_if_eq (n := 19) (t := 48) dX7_hasPush_16 rfl (by decide) (fun h16 => ?_) (fun h16 => ?_)
    · have h16 := q_b0.mp h16
      refine q_iconst (n := 49) dX7_hasPush_48 rfl (k := ?_)
      refine q_iret dX7_hasPush_49 rfl (fun _ => rfl) ?_
      refine ⟨_, rfl, congrArg Sum.inl (Eq.symm ?_), _, rfl⟩
      first
        | exact if_pos (hasPb_t.mpr ⟨⟨⟨h8, h16⟩, h41⟩, h29⟩)
        | exact if_neg (fun z => by have z := hasPb_t.mp z; first | exact h8 z.1.1.1 | exact h16 z.1.1.2 | exact h29 z.2 | exact z.1.2 h41)
    · have h16 := q_b1.mp h16
      refine q_aload_n (n := 20) dX7_hasPush_19 rfl rfl ?_
      refine q_iload_n (n := 21) dX7_hasPush_20 rfl rfl ?_
      refine q_v1D (n := 24) dX7_hasPush_21 rfl (zX7_curveOf σ _ t hI0 (by omega)) vX7_curveOf lX7_116 rfl rfl xi0 rfl ?_
      refine q_iload_n (n := 25) dX7_hasPush_24 rfl rfl ?_
      refine q_iload_n (n := 26) dX7_hasPush_25 rfl rfl ?_
      refine q_v2D (n := 29) dX7_hasPush_26 rfl (zC_passes _ _ _ t x y ht8 laid_cvl hg (by omega) (by omega)) vX0_passes lX7_206 rfl rfl (curN t ht8) rfl ?_
      refine q_if_eq (n := 32) (t := 48) dX7_hasPush_29 rfl (by decide) (fun h29 => ?_) (fun h29 => ?_)
      · have h29 := q_b0.mp h29
        refine q_iconst (n := 49) dX7_hasPush_48 rfl (k := ?_)
        refine q_iret dX7_hasPush_49 rfl (fun _ => rfl) ?_
        refine ⟨_, rfl, congrArg Sum.inl (Eq.symm ?_), _, rfl⟩
        first
          | exact if_pos (hasPb_t.mpr ⟨⟨⟨h8, h16⟩, h41⟩, h29⟩)
          | exact if_neg (fun z => by have z := hasPb_t.mp z; first | exact h8 z.1.1.1 | exact h16 z.1.1.2 | exact h29 z.2 | exact z.1.2 h41)
      · have h29 := q_b1.mp h29
        refine q_aload_n (n := 33) dX7_hasPush_32 rfl rfl ?_
        refine q_getR (n := 36) dX7_hasPush_33 rfl fX7_34 xi0 rfl ?_
        refine q_iload_n (n := 37) dX7_hasPush_36 rfl rfl ?_
        refine q_aaload (n := 38) dX7_hasPush_37 rfl xi80 (fun _ => rfl) ⟨by omega, by omega⟩ ?_
        refine q_v0D (n := 41) dX7_hasPush_38 rfl (zC_isStraight _ _ _ t ht8 laid_cvl) vX0_isStraight lX7_180 rfl rfl (curN t ht8) rfl ?_
        refine q_if_ne (n := 44) (t := 48) dX7_hasPush_41 rfl (by decide) (fun h41 => ?_) (fun h41 => ?_)
        · have h41 := q_b1.mp h41
          refine q_iconst (n := 49) dX7_hasPush_48 rfl (k := ?_)
          refine q_iret dX7_hasPush_49 rfl (fun _ => rfl) ?_
          refine ⟨_, rfl, congrArg Sum.inl (Eq.symm ?_), _, rfl⟩
          first
            | exact if_pos (hasPb_t.mpr ⟨⟨⟨h8, h16⟩, h41⟩, h29⟩)
            | exact if_neg (fun z => by have z := hasPb_t.mp z; first | exact h8 z.1.1.1 | exact h16 z.1.1.2 | exact h29 z.2 | exact z.1.2 h41)
        · have h41 := q_b0.mp h41
          refine q_iconst (n := 45) dX7_hasPush_44 rfl (k := ?_)
          refine q_go (t := 49) dX7_hasPush_45 (by decide) ?_
          refine q_iret dX7_hasPush_49 rfl (fun _ => rfl) ?_
          refine ⟨_, rfl, congrArg Sum.inl (Eq.symm ?_), _, rfl⟩
          first
            | exact if_pos (hasPb_t.mpr ⟨⟨⟨h8, h16⟩, h41⟩, h29⟩)
            | exact if_neg (fun z => by have z := hasPb_t.mp z; first | exact h8 z.1.1.1 | exact h16 z.1.1.2 | exact h29 z.2 | exact z.1.2 h41)
set_option maxRecDepth 100000 in
theorem zX7_pushOf (t x y F : Int) (σ s : q_S) (hI : IX σ) (ht : 0 ≤ t ∧ t < σ 1 1) (hB : lB (σ 2) (6 * t) ≠ 0) (hx : q_bd x 20) (hy : q_bd y 20) (hF : q_bd F 9) : q_Ct mX7_pushOf shX [.inr (.inr 0), .inl t, .inl x, .inl y, .inl F] (ov σ s) (fun r σ' => ∃ z, r = some z ∧ (z = .inr (.inr 82) ∧ ∃ s', σ' = ov σ s' ∧ psh s' (σ 2) F x y t ∧ s' 83 = s 83 ∧ s' 81 = s 81)) := by
  refine q_ct 0 (by decide) rfl rfl ?_
  show q_WP mX7_pushOf shX 0 [some (.inr (.inr 0)), some (.inl t), some (.inl x), some (.inl y), some (.inl F)] [] (ov σ s) _
  have hI0 := hI
  have hn := hI.1.2.1
  have ht8 : 0 ≤ t ∧ t < 8 := by omega
  have hg := hI.pt ht
  refine q_aload_n (n := 1) dX7_pushOf_0 rfl rfl ?_
  refine q_getR (n := 4) dX7_pushOf_1 rfl fX7_45 xi0 rfl ?_
  refine q_v0W (n := 7) dX7_pushOf_4 rfl (zC_clear _ _ 82 (Or.inr rfl)) vX4_clear lX7_366 rfl rfl xi82 rfl (fun σ4 h4 => ?_)
  obtain ⟨s1, rfl, hc1, hc2⟩ := h4
  · skip
    refine q_aload_n (n := 8) dX7_pushOf_7 rfl rfl ?_
    refine q_getR (n := 11) dX7_pushOf_8 rfl fX7_45 xi0 rfl ?_
    refine q_aload_n (n := 12) dX7_pushOf_11 rfl rfl ?_
    refine q_iload_n (n := 13) dX7_pushOf_12 rfl rfl ?_
    refine q_v1D (n := 16) dX7_pushOf_13 rfl (zX7_curveOf σ _ t hI0 (by omega)) vX7_curveOf lX7_116 rfl rfl xi0 rfl ?_
    refine q_iload (n := 18) dX7_pushOf_16 rfl rfl ?_
    refine q_iload_n (n := 19) dX7_pushOf_18 rfl rfl ?_
    refine q_iload_n (n := 20) dX7_pushOf_19 rfl rfl ?_
    refine q_iconst (n := 21) dX7_pushOf_20 rfl (k := ?_)
    refine q_v5W (n := 24) dX7_pushOf_21 rfl (zC_join _ _ (σ 2) 82 t F x y 1 0 0 1 0 (Or.inr rfl) ht8 laid_cvl hg hB ⟨by rw [cvl_of (by omega)]; exact hc1.1, by rw [cvl_of (by omega)]; exact hc1.2.1, by rw [cvl_of (by omega)]; exact hc1.2.2⟩ jok_0 (by decide) hF hx hy ⟨by decide, by decide⟩) vX4_join lX7_369 rfl rfl xi82 rfl (fun σ21 h21 => ?_)
    obtain ⟨s2, rfl, hd1, hd2⟩ := h21
    · skip
      refine q_aload_n (n := 25) dX7_pushOf_24 rfl rfl ?_
      refine q_getR (n := 28) dX7_pushOf_25 rfl fX7_45 xi0 rfl ?_
      refine q_aret dX7_pushOf_28 rfl ?_
      refine ⟨_, rfl, rfl, s2, rfl, ⟨?_, ?_, ?_⟩, ?_, ?_⟩
      · rw [hd1.1]
        unfold jn
        dsimp only
        rw [jX_1, Int.zero_mul, Int.mul_one, Int.zero_add]
      · rw [hd1.2.1]
        unfold jn
        dsimp only
        rw [jY_1, Int.zero_mul, Int.mul_one, Int.zero_add]
      · rw [hd1.2.2]
        unfold jn
        dsimp only
        rw [Int.one_mul]
      · rw [hd2 83 (by decide), cvl_of (by omega), hc2 83 (by decide)]
      · rw [hd2 81 (by decide), cvl_of (by omega), hc2 81 (by decide)]
set_option maxRecDepth 100000 in
theorem zX7_push (t x y a k : Int) (σ s : q_S) (hI : IX σ) : q_Ct mX7_push shX [.inr (.inr 0), .inl t, .inl x, .inl y, .inl a, .inl k] (ov σ s) (fun r σ' => r = some (.inr (.inl (fPush (σ 1 0) (σ 1 1) (σ 2) t x y a k))) ∧ ∃ s', σ' = ov σ s') := by
  refine q_ct 0 (by decide) rfl rfl ?_
  show q_WP mX7_push shX 0 [some (.inr (.inr 0)), some (.inl t), some (.inl x), some (.inl y), some (.inl a), some (.inl k)] [] (ov σ s) _
  have hI0 := hI
  have hF9 := hI.fd
  refine q_aload_n (n := 1) dX7_push_0 rfl rfl ?_
  refine q_iload_n (n := 2) dX7_push_1 rfl rfl ?_
  refine q_iload_n (n := 3) dX7_push_2 rfl rfl ?_
  refine q_iload_n (n := 4) dX7_push_3 rfl rfl ?_
  refine q_v3 (n := 7) dX7_push_4 rfl (zX7_hasPush _ _ _ _ _ hI0) vX7_hasPush lX7_209 rfl rfl xi0 rfl (fun v4 σ4 h4 => ?_)
  obtain ⟨rfl, s1, rfl⟩ := h4
  · skip
    refine q_if_eq (n := 10) (t := 26) dX7_push_7 rfl (by decide) (fun h7 => ?_) (fun h7 => ?_)
    · have h7 := q_b0.mp h7
      refine q_ldc2 (x := -9223372036854775808) (n := 29) dX7_push_26 rfl kX7_133 (k := ?_)
      refine q_lret dX7_push_29 rfl ?_
      refine ⟨congrArg some (congrArg Sum.inr (congrArg Sum.inl (Eq.symm ?_))), _, rfl⟩
      unfold fPush
      first
        | exact if_pos ⟨h7, h15, h23⟩
        | exact if_neg (fun z => by first | exact h7 z.1 | exact h15 z.2.1 | exact h23 z.2.2)
    · have h7 := q_b1.mp h7
      have hz := hasPb_t.mp h7
      refine q_iload (n := 12) dX7_push_10 rfl rfl ?_
      refine q_c1D (n := 15) dX7_push_12 rfl (zX7_isAxis _ _) vX7_isAxis lX7_174 rfl rfl ?_
      refine q_if_eq (n := 18) (t := 26) dX7_push_15 rfl (by decide) (fun h15 => ?_) (fun h15 => ?_)
      · have h15 := q_b0.mp h15
        refine q_ldc2 (x := -9223372036854775808) (n := 29) dX7_push_26 rfl kX7_133 (k := ?_)
        refine q_lret dX7_push_29 rfl ?_
        refine ⟨congrArg some (congrArg Sum.inr (congrArg Sum.inl (Eq.symm ?_))), _, rfl⟩
        unfold fPush
        first
          | exact if_pos ⟨h7, h15, h23⟩
          | exact if_neg (fun z => by first | exact h7 z.1 | exact h15 z.2.1 | exact h23 z.2.2)
      · have h15 := q_b1.mp h15
        refine q_iload (n := 20) dX7_push_18 rfl rfl ?_
        refine q_c1D (n := 23) dX7_push_20 rfl (zX7_isPart _ _) vX7_isPart lX7_177 rfl rfl ?_
        refine q_if_ne (n := 26) (t := 30) dX7_push_23 rfl (by decide) (fun h23 => ?_) (fun h23 => ?_)
        · have h23 := q_b1.mp h23
          refine q_aload_n (n := 31) dX7_push_30 rfl rfl ?_
          refine q_iload_n (n := 32) dX7_push_31 rfl rfl ?_
          refine q_iload_n (n := 33) dX7_push_32 rfl rfl ?_
          refine q_iload_n (n := 34) dX7_push_33 rfl rfl ?_
          refine q_aload_n (n := 35) dX7_push_34 rfl rfl ?_
          refine q_getR (n := 38) dX7_push_35 rfl fX7_12 xi0 rfl ?_
          refine q_getIF (σ 1) (kI := 0) (n := 41) (by decide) dX7_push_38 rfl fX7_156 xi1 rfl rfl rfl ?_
          refine q_v4 (n := 44) dX7_push_41 rfl (zX7_pushOf t x y (σ 1 0) _ _ hI0 hz.1.1.1 hz.1.2 hz.1.1.2.1 hz.1.1.2.2 hF9) vX7_pushOf lX7_213 rfl rfl xi0 rfl (fun v41 σ41 h41 => ?_)
          obtain ⟨rfl, s2, rfl, hps, _, _⟩ := h41
          have hpx := pXY_div (hI0.pt hz.1.1.1) hz.1.2 hF9 hz.1.1.2.1 hz.1.1.2.2
          have hub := un_bd (hI0.pt hz.1.1.1) hz.1.2
          · skip
            refine q_iload (n := 46) dX7_push_44 rfl rfl ?_
            refine q_iload (n := 48) dX7_push_46 rfl rfl ?_
            refine q_v2D (n := 51) dX7_push_48 rfl (zC_partAlong _ _ 82 (pX (σ 2) (σ 1 0) y t) (pY (σ 2) (σ 1 0) x t) (un (σ 2) t) a k (Or.inr rfl) hps ⟨by omega, by omega⟩ (bd_le hpx.1.1 (by decide)) (bd_le hpx.1.2 (by decide))) vX4_partAlong lX7_217 rfl rfl xi82 rfl ?_
            refine q_lret dX7_push_51 rfl ?_
            refine ⟨congrArg some (congrArg Sum.inr (congrArg Sum.inl (Eq.symm ?_))), _, rfl⟩
            unfold fPush
            first
              | exact if_pos ⟨h7, h15, h23⟩
              | exact if_neg (fun z => by first | exact h7 z.1 | exact h15 z.2.1 | exact h23 z.2.2)
        · have h23 := q_b0.mp h23
          refine q_ldc2 (x := -9223372036854775808) (n := 29) dX7_push_26 rfl kX7_133 (k := ?_)
          refine q_lret dX7_push_29 rfl ?_
          refine ⟨congrArg some (congrArg Sum.inr (congrArg Sum.inl (Eq.symm ?_))), _, rfl⟩
          unfold fPush
          first
            | exact if_pos ⟨h7, h15, h23⟩
            | exact if_neg (fun z => by first | exact h7 z.1 | exact h15 z.2.1 | exact h23 z.2.2)
set_option maxRecDepth 100000 in
theorem zX7_energyOf (k : Int) (f : Int → Int) (F x y t : Int) (σ s : q_S) (hk : 0 ≤ k ∧ k < 12) (hs : psh s f F x y t) (hg : lG f (6 * t)) (hB : lB f (6 * t) ≠ 0) (hF : q_bd F 9) (hx : q_bd x 20) (hy : q_bd y 20) : q_Ct mX7_energyOf shX [.inr (.inr 82), .inl k] (ov σ s) (fun r σ' => r = some (.inr (.inl (engy f F x y t k))) ∧ σ' = ov σ s) := by
  refine q_ct 2 (by decide) rfl rfl ?_
  show q_WP mX7_energyOf shX 0 [some (.inr (.inr 82)), some (.inl k), none, none] [] (ov σ s) _
  have hm := mss_bd hk
  have hpx := pXY_div hg hB hF hx hy
  have hub := un_bd hg hB
  have hst := stren_bd hpx.2.1 hpx.2.2
  refine q_iload_n (n := 1) dX7_energyOf_0 rfl rfl ?_
  refine q_iconst (n := 2) dX7_energyOf_1 rfl (k := ?_)
  refine q_c2D (n := 5) dX7_energyOf_2 rfl (zX7_numberOf _ _ _ (by omega)) vX7_numberOf lX7_153 rfl rfl ?_
  refine q_i2l (n := 6) dX7_energyOf_5 rfl ?_
  have b13_ := (show q_bd (q_num.getD (5 * k + 4).toNat 0) 120 from hm)
  refine q_lstore_n (n := 7) dX7_energyOf_6 rfl (Nat.le_of_ble_eq_true rfl) (q_s2_s (q_s2_1 rfl)) ?_
  refine q_lload_n (n := 8) dX7_energyOf_7 rfl rfl ?_
  refine q_lload_n (n := 9) dX7_energyOf_8 rfl rfl ?_
  have b14_ := bd_mul (C := 14400) b13_ b13_ (by decide)
  refine q_lmulS (n := 10) dX7_energyOf_9 rfl (bd_64 b14_ (by decide)) ?_
  refine q_aload_n (n := 11) dX7_energyOf_10 rfl rfl ?_
  refine q_v0D (n := 14) dX7_energyOf_11 rfl (zC_strength _ _ 82 (pX f F y t) (pY f F x t) (un f t) (Or.inr rfl) hs (by omega) hpx.2.1 hpx.2.2) vX4_strength lX7_231 rfl rfl xi82 rfl ?_
  have b15_ := (bd_c 679477248000000 (stren (pX f F y t) (pY f F x t) (un f t)) ⟨by omega, by omega⟩)
  have b16_ := bd_add (C := 679477248014400) b14_ b15_ (by decide)
  refine q_laddS (n := 15) dX7_energyOf_14 rfl (bd_64 b16_ (by decide)) ?_
  refine q_c1D (n := 18) dX7_energyOf_15 rfl (zX7_wholeRoot _ _ _) vX7_wholeRoot lX7_286 rfl rfl ?_
  refine q_lret dX7_energyOf_18 rfl ?_
  exact ⟨rfl, rfl⟩

set_option maxRecDepth 100000 in
theorem zX7_energy (t x y k : Int) (σ s : q_S) (hI : IX σ) : q_Ct mX7_energy shX [.inr (.inr 0), .inl t, .inl x, .inl y, .inl k] (ov σ s) (fun r σ' => r = some (.inr (.inl (fEnergy (σ 1 0) (σ 1 1) (σ 2) t x y k))) ∧ ∃ s', σ' = ov σ s') := by
  refine q_ct 0 (by decide) rfl rfl ?_
  show q_WP mX7_energy shX 0 [some (.inr (.inr 0)), some (.inl t), some (.inl x), some (.inl y), some (.inl k)] [] (ov σ s) _
  have hI0 := hI
  have hF9 := hI.fd
  refine q_aload_n (n := 1) dX7_energy_0 rfl rfl ?_
  refine q_iload_n (n := 2) dX7_energy_1 rfl rfl ?_
  refine q_iload_n (n := 3) dX7_energy_2 rfl rfl ?_
  refine q_iload_n (n := 4) dX7_energy_3 rfl rfl ?_
  refine q_v3 (n := 7) dX7_energy_4 rfl (zX7_hasPush _ _ _ _ _ hI0) vX7_hasPush lX7_209 rfl rfl xi0 rfl (fun v4 σ4 h4 => ?_)
  obtain ⟨rfl, s1, rfl⟩ := h4
  · skip
    refine q_if_eq (n := 10) (t := 18) dX7_energy_7 rfl (by decide) (fun h7 => ?_) (fun h7 => ?_)
    · have h7 := q_b0.mp h7
      refine q_ldc2 (x := -9223372036854775808) (n := 21) dX7_energy_18 rfl kX7_133 (k := ?_)
      refine q_lret dX7_energy_21 rfl ?_
      refine ⟨congrArg some (congrArg Sum.inr (congrArg Sum.inl (Eq.symm ?_))), _, rfl⟩
      unfold fEnergy
      first
        | exact if_pos ⟨h7, h15⟩
        | exact if_neg (fun z => by first | exact h7 z.1 | exact h15 z.2)
    · have h7 := q_b1.mp h7
      have hz := hasPb_t.mp h7
      refine q_iload (n := 12) dX7_energy_10 rfl rfl ?_
      refine q_c1D (n := 15) dX7_energy_12 rfl (zX7_isKind _ _) vX7_isKind lX7_150 rfl rfl ?_
      refine q_if_ne (n := 18) (t := 22) dX7_energy_15 rfl (by decide) (fun h15 => ?_) (fun h15 => ?_)
      · have h15 := q_b1.mp h15
        refine q_aload_n (n := 23) dX7_energy_22 rfl rfl ?_
        refine q_iload_n (n := 24) dX7_energy_23 rfl rfl ?_
        refine q_iload_n (n := 25) dX7_energy_24 rfl rfl ?_
        refine q_iload_n (n := 26) dX7_energy_25 rfl rfl ?_
        refine q_aload_n (n := 27) dX7_energy_26 rfl rfl ?_
        refine q_getR (n := 30) dX7_energy_27 rfl fX7_12 xi0 rfl ?_
        refine q_getIF (σ 1) (kI := 0) (n := 33) (by decide) dX7_energy_30 rfl fX7_156 xi1 rfl rfl rfl ?_
        refine q_v4 (n := 36) dX7_energy_33 rfl (zX7_pushOf t x y (σ 1 0) _ _ hI0 hz.1.1.1 hz.1.2 hz.1.1.2.1 hz.1.1.2.2 hF9) vX7_pushOf lX7_213 rfl rfl xi0 rfl (fun v33 σ33 h33 => ?_)
        obtain ⟨rfl, s2, rfl, hps, _, _⟩ := h33
        · skip
          refine q_iload (n := 38) dX7_energy_36 rfl rfl ?_
          refine q_c2D (n := 41) dX7_energy_38 rfl (zX7_energyOf k (σ 2) (σ 1 0) x y t _ _ h15 hps (hI0.pt hz.1.1.1) hz.1.2 hF9 hz.1.1.2.1 hz.1.1.2.2) vX7_energyOf lX7_274 rfl rfl ?_
          refine q_lret dX7_energy_41 rfl ?_
          refine ⟨congrArg some (congrArg Sum.inr (congrArg Sum.inl (Eq.symm ?_))), _, rfl⟩
          unfold fEnergy
          first
            | exact if_pos ⟨h7, h15⟩
            | exact if_neg (fun z => by first | exact h7 z.1 | exact h15 z.2)
      · have h15 := q_b0.mp h15
        refine q_ldc2 (x := -9223372036854775808) (n := 21) dX7_energy_18 rfl kX7_133 (k := ?_)
        refine q_lret dX7_energy_21 rfl ?_
        refine ⟨congrArg some (congrArg Sum.inr (congrArg Sum.inl (Eq.symm ?_))), _, rfl⟩
        unfold fEnergy
        first
          | exact if_pos ⟨h7, h15⟩
          | exact if_neg (fun z => by first | exact h7 z.1 | exact h15 z.2)
